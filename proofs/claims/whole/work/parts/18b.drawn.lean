abbrev xX11_line : bX := ("BurntHall", prog_1_method_18_code, 2, (Option.some Jvm.ClassFile.FieldType.long), b_rm 2 0 0, 0, "line")
abbrev yX11_line : MethodName := ⟨"BurntHall", "line", "(I)J"⟩
theorem dX11_line_0 : decode prog_1_method_18_code 0 = .ok (.aload_n 0, 1) := by decide +kernel
theorem dX11_line_1 : decode prog_1_method_18_code 1 = .ok (.getfield 26, 3) := by decide +kernel
theorem dX11_line_4 : decode prog_1_method_18_code 4 = .ok (.iload_n 1, 1) := by decide +kernel
theorem dX11_line_5 : decode prog_1_method_18_code 5 = .ok (.invokevirtual 146, 3) := by decide +kernel
theorem dX11_line_8 : decode prog_1_method_18_code 8 = .ok (.ifCond .eq 15, 3) := by decide +kernel
theorem dX11_line_11 : decode prog_1_method_18_code 11 = .ok (.aload_n 0, 1) := by decide +kernel
theorem dX11_line_12 : decode prog_1_method_18_code 12 = .ok (.getfield 26, 3) := by decide +kernel
theorem dX11_line_15 : decode prog_1_method_18_code 15 = .ok (.getfield 174, 3) := by decide +kernel
theorem dX11_line_18 : decode prog_1_method_18_code 18 = .ok (.iload_n 1, 1) := by decide +kernel
theorem dX11_line_19 : decode prog_1_method_18_code 19 = .ok (.laload, 1) := by decide +kernel
theorem dX11_line_20 : decode prog_1_method_18_code 20 = .ok (.goto 4, 3) := by decide +kernel
theorem dX11_line_23 : decode prog_1_method_18_code 23 = .ok (.lconst 0, 1) := by decide +kernel
theorem dX11_line_24 : decode prog_1_method_18_code 24 = .ok (.lreturn, 1) := by decide +kernel
noncomputable def F_X11_line (v1 : Int) (M : bM) : Option (Int) :=
  b_bind (F_X5_has v1 M) (fun x1 => if x1 = 0 then (some 0) else (b_g (0 ≤ v1 ∧ v1 < 60) (some (M 91 v1))))
theorem t_X11_line {l : Launch} {E : bE} {Q : Int → Prop} {v1 : Int} {M : bM} (h : b_wp (F_X11_line v1 M) (Q)) : V l E xX11_line (0, 0) 0 [(0, bR 0), (1, bI v1)] [] M (b_pJp M Q) := by
  unfold F_X11_line at h
  refine v_aload_n (f := 0) 0 rfl dX11_line_0 ?_
  refine v_getR (kf := 2) (kz := 2) rfl kd_0 rfl ⟨by decide, by decide⟩ rfl wf_11_26 dX11_line_1 ?_
  refine v_iload_n (f := 1) 1 rfl dX11_line_4 ?_
  refine v_cVIp (nA := 1) (As := [bI _]) (ix := 146) (cf_X5_has (b_wp_b h)) rfl kd_3 rfl rfl wc_X5_has wm_11_146 wi_X5_has ws_X5_has wn_5 ⟨by decide, by decide, by decide⟩ rfl ⟨by decide, by decide⟩ ⟨by decide, by decide⟩ (Nat.le_of_ble_eq_true rfl) dX11_line_5 (fun x1 h => ?_)
  refine v_if_eq (tgt := 23) dX11_line_8 (by decide) (fun c2 => ?_) (fun c2 => ?_)
  · replace h := b_wp_t c2 h
    refine v_lconst0 dX11_line_23 ?_
    refine v_lreturn rfl dX11_line_24 ⟨by decide, by decide⟩ ?_
    exact ⟨_, rfl, rfl, h⟩
  · replace h := b_wp_f c2 h
    obtain ⟨g3, h⟩ := b_wp_g h
    refine v_aload_n (f := 0) 0 rfl dX11_line_11 ?_
    refine v_getR (kf := 2) (kz := 2) rfl kd_0 rfl ⟨by decide, by decide⟩ rfl wf_11_26 dX11_line_12 ?_
    refine v_getR (kf := 7) (kz := 7) rfl kd_3 rfl ⟨by decide, by decide⟩ rfl wf_11_174 dX11_line_15 ?_
    refine v_iload_n (f := 1) 1 rfl dX11_line_18 ?_
    refine v_laload kd_91 g3 (by decide) dX11_line_19 ?_
    refine v_goto (tgt := 24) dX11_line_20 (by decide) ?_
    refine v_lreturn rfl dX11_line_24 ⟨by decide, by decide⟩ ?_
    exact ⟨_, rfl, rfl, h⟩
theorem cf_X11_line {l : Launch} {E : bE} {M : bM} {v1 : Int} {Q : Int → Prop} (h : b_wp (F_X11_line v1 M) Q) : b_C l E xX11_line yX11_line [bR 0, bI v1] M (b_pJp M Q) := b_met (by decide) ⟨rfl, rfl⟩ (Nat.le_of_ble_eq_true rfl) (fun _ _ => t_X11_line h)
abbrev xX10_clear : bX := ("BurntHall$Tape", prog_12_method_3_code, 1, (Option.none : Option Jvm.ClassFile.FieldType), b_rm 1 0 0, 0, "clear")
abbrev yX10_clear : MethodName := ⟨"BurntHall$Tape", "clear", "()V"⟩
theorem dX10_clear_0 : decode prog_12_method_3_code 0 = .ok (.aload_n 0, 1) := by decide +kernel
theorem dX10_clear_1 : decode prog_12_method_3_code 1 = .ok (.iconst 0, 1) := by decide +kernel
theorem dX10_clear_2 : decode prog_12_method_3_code 2 = .ok (.putfield 19, 3) := by decide +kernel
theorem dX10_clear_5 : decode prog_12_method_3_code 5 = .ok (.return_, 1) := by decide +kernel
noncomputable def F_X10_clear (M : bM) : Option (bM) :=
  b_let (b_up M 1 1 0) (fun M1 => some M1)
theorem t_X10_clear {l : Launch} {E : bE} {Q : bM → Prop} {M : bM} (h : b_wp (F_X10_clear M) (Q)) : V l E xX10_clear (0, 0) 0 [(0, bR 1)] [] M (b_pV Q) := by
  unfold F_X10_clear at h
  refine v_aload_n (f := 0) 0 rfl dX10_clear_0 ?_
  refine v_iconst ⟨by decide, by decide⟩ dX10_clear_1 ?_
  refine v_putI (kf := 1) (kz := 1) rfl kd_1 rfl ⟨by decide, by decide⟩ rfl wf_10_19 rfl rfl dX10_clear_2 ?_
  replace h := b_wp_l h
  refine v_return rfl dX10_clear_5 ⟨by decide, by decide⟩ ?_
  exact ⟨rfl, h⟩
theorem cf_X10_clear {l : Launch} {E : bE} {M : bM} {Q : bM → Prop} (h : b_wp (F_X10_clear M) Q) : b_C l E xX10_clear yX10_clear [bR 1] M (b_pV Q) := b_met (by decide) ⟨rfl, rfl⟩ (Nat.le_of_ble_eq_true rfl) (fun _ _ => t_X10_clear h)
abbrev xX10_byteAt : bX := ("BurntHall$Tape", prog_12_method_4_code, 2, (Option.some Jvm.ClassFile.FieldType.int), b_rm 1 0 0, 0, "byteAt")
abbrev yX10_byteAt : MethodName := ⟨"BurntHall$Tape", "byteAt", "(I)I"⟩
theorem dX10_byteAt_0 : decode prog_12_method_4_code 0 = .ok (.iload_n 1, 1) := by decide +kernel
theorem dX10_byteAt_1 : decode prog_12_method_4_code 1 = .ok (.ifCond .lt 31, 3) := by decide +kernel
theorem dX10_byteAt_4 : decode prog_12_method_4_code 4 = .ok (.iload_n 1, 1) := by decide +kernel
theorem dX10_byteAt_5 : decode prog_12_method_4_code 5 = .ok (.aload_n 0, 1) := by decide +kernel
theorem dX10_byteAt_6 : decode prog_12_method_4_code 6 = .ok (.getfield 19, 3) := by decide +kernel
theorem dX10_byteAt_9 : decode prog_12_method_4_code 9 = .ok (.if_icmp .ge 23, 3) := by decide +kernel
theorem dX10_byteAt_12 : decode prog_12_method_4_code 12 = .ok (.iload_n 1, 1) := by decide +kernel
theorem dX10_byteAt_13 : decode prog_12_method_4_code 13 = .ok (.sipush 1000, 3) := by decide +kernel
theorem dX10_byteAt_16 : decode prog_12_method_4_code 16 = .ok (.if_icmp .ge 16, 3) := by decide +kernel
theorem dX10_byteAt_19 : decode prog_12_method_4_code 19 = .ok (.aload_n 0, 1) := by decide +kernel
theorem dX10_byteAt_20 : decode prog_12_method_4_code 20 = .ok (.getfield 11, 3) := by decide +kernel
theorem dX10_byteAt_23 : decode prog_12_method_4_code 23 = .ok (.iload_n 1, 1) := by decide +kernel
theorem dX10_byteAt_24 : decode prog_12_method_4_code 24 = .ok (.baload, 1) := by decide +kernel
theorem dX10_byteAt_25 : decode prog_12_method_4_code 25 = .ok (.sipush 255, 3) := by decide +kernel
theorem dX10_byteAt_28 : decode prog_12_method_4_code 28 = .ok (.iand, 1) := by decide +kernel
theorem dX10_byteAt_29 : decode prog_12_method_4_code 29 = .ok (.goto 4, 3) := by decide +kernel
theorem dX10_byteAt_32 : decode prog_12_method_4_code 32 = .ok (.iconst (-1), 1) := by decide +kernel
theorem dX10_byteAt_33 : decode prog_12_method_4_code 33 = .ok (.ireturn, 1) := by decide +kernel
noncomputable def F_X10_byteAt (v1 : Int) (M : bM) : Option (Int) :=
  if v1 < 0 then (some (-1)) else (if (M 1 1) ≤ v1 then (some (-1)) else (if 1000 ≤ v1 then (some (-1)) else (b_g (0 ≤ v1 ∧ v1 < 1000) (some (i_and (M 72 v1) 255)))))
theorem t_X10_byteAt {l : Launch} {E : bE} {Q : Int → Prop} {v1 : Int} {M : bM} (h : b_wp (F_X10_byteAt v1 M) (Q)) : V l E xX10_byteAt (0, 0) 0 [(0, bR 1), (1, bI v1)] [] M (b_pIp M Q) := by
  unfold F_X10_byteAt at h
  refine v_iload_n (f := 1) 1 rfl dX10_byteAt_0 ?_
  refine v_if_lt (tgt := 32) dX10_byteAt_1 (by decide) (fun c1 => ?_) (fun c1 => ?_)
  · replace h := b_wp_t c1 h
    refine v_iconst ⟨by decide, by decide⟩ dX10_byteAt_32 ?_
    refine v_ireturn rfl dX10_byteAt_33 ⟨by decide, by decide⟩ ?_
    exact ⟨_, rfl, rfl, h⟩
  · replace h := b_wp_f c1 h
    refine v_iload_n (f := 1) 1 rfl dX10_byteAt_4 ?_
    refine v_aload_n (f := 0) 0 rfl dX10_byteAt_5 ?_
    refine v_getI (kf := 1) (kz := 1) rfl kd_1 rfl ⟨by decide, by decide⟩ rfl wf_10_19 dX10_byteAt_6 ?_
    refine v_icmp_ge (tgt := 32) dX10_byteAt_9 (by decide) (fun c2 => ?_) (fun c2 => ?_)
    · replace h := b_wp_t c2 h
      refine v_iconst ⟨by decide, by decide⟩ dX10_byteAt_32 ?_
      refine v_ireturn rfl dX10_byteAt_33 ⟨by decide, by decide⟩ ?_
      exact ⟨_, rfl, rfl, h⟩
    · replace h := b_wp_f c2 h
      refine v_iload_n (f := 1) 1 rfl dX10_byteAt_12 ?_
      refine v_sipush ⟨by decide, by decide⟩ (by decide) dX10_byteAt_13 ?_
      refine v_icmp_ge (tgt := 32) dX10_byteAt_16 (by decide) (fun c3 => ?_) (fun c3 => ?_)
      · replace h := b_wp_t c3 h
        refine v_iconst ⟨by decide, by decide⟩ dX10_byteAt_32 ?_
        refine v_ireturn rfl dX10_byteAt_33 ⟨by decide, by decide⟩ ?_
        exact ⟨_, rfl, rfl, h⟩
      · replace h := b_wp_f c3 h
        obtain ⟨g4, h⟩ := b_wp_g h
        refine v_aload_n (f := 0) 0 rfl dX10_byteAt_19 ?_
        refine v_getR (kf := 0) (kz := 0) rfl kd_1 rfl ⟨by decide, by decide⟩ rfl wf_10_11 dX10_byteAt_20 ?_
        refine v_iload_n (f := 1) 1 rfl dX10_byteAt_23 ?_
        refine v_baload kd_72 g4 (by decide) dX10_byteAt_24 ?_
        refine v_sipush ⟨by decide, by decide⟩ (by decide) dX10_byteAt_25 ?_
        refine v_iand (v := i_and _ _) rfl dX10_byteAt_28 ?_
        refine v_goto (tgt := 33) dX10_byteAt_29 (by decide) ?_
        refine v_ireturn rfl dX10_byteAt_33 ⟨by decide, by decide⟩ ?_
        exact ⟨_, rfl, rfl, h⟩
theorem cf_X10_byteAt {l : Launch} {E : bE} {M : bM} {v1 : Int} {Q : Int → Prop} (h : b_wp (F_X10_byteAt v1 M) Q) : b_C l E xX10_byteAt yX10_byteAt [bR 1, bI v1] M (b_pIp M Q) := b_met (by decide) ⟨rfl, rfl⟩ (Nat.le_of_ble_eq_true rfl) (fun _ _ => t_X10_byteAt h)
abbrev xX10_isBlank : bX := ("BurntHall$Tape", prog_12_method_14_code, 1, (Option.some Jvm.ClassFile.FieldType.boolean), b_rm 1 0 0, 0, "isBlank")
abbrev yX10_isBlank : MethodName := ⟨"BurntHall$Tape", "isBlank", "(I)Z"⟩
theorem dX10_isBlank_0 : decode prog_12_method_14_code 0 = .ok (.iload_n 0, 1) := by decide +kernel
theorem dX10_isBlank_1 : decode prog_12_method_14_code 1 = .ok (.bipush 32, 2) := by decide +kernel
theorem dX10_isBlank_3 : decode prog_12_method_14_code 3 = .ok (.if_icmp .eq 9, 3) := by decide +kernel
theorem dX10_isBlank_6 : decode prog_12_method_14_code 6 = .ok (.iload_n 0, 1) := by decide +kernel
theorem dX10_isBlank_7 : decode prog_12_method_14_code 7 = .ok (.bipush 10, 2) := by decide +kernel
theorem dX10_isBlank_9 : decode prog_12_method_14_code 9 = .ok (.if_icmp .ne 7, 3) := by decide +kernel
theorem dX10_isBlank_12 : decode prog_12_method_14_code 12 = .ok (.iconst 1, 1) := by decide +kernel
theorem dX10_isBlank_13 : decode prog_12_method_14_code 13 = .ok (.goto 4, 3) := by decide +kernel
theorem dX10_isBlank_16 : decode prog_12_method_14_code 16 = .ok (.iconst 0, 1) := by decide +kernel
theorem dX10_isBlank_17 : decode prog_12_method_14_code 17 = .ok (.ireturn, 1) := by decide +kernel
noncomputable def F_X10_isBlank (v0 : Int) (M : bM) : Option (Int) :=
  if v0 = 32 then (some 1) else (if v0 = 10 then (some 1) else (some 0))
theorem t_X10_isBlank {l : Launch} {E : bE} {Q : Int → Prop} {v0 : Int} {M : bM} (h : b_wp (F_X10_isBlank v0 M) (Q)) : V l E xX10_isBlank (0, 0) 0 [(0, bI v0)] [] M (b_pIp M Q) := by
  unfold F_X10_isBlank at h
  refine v_iload_n (f := 0) 0 rfl dX10_isBlank_0 ?_
  refine v_bipush ⟨by decide, by decide⟩ (by decide) dX10_isBlank_1 ?_
  refine v_icmp_eq (tgt := 12) dX10_isBlank_3 (by decide) (fun c1 => ?_) (fun c1 => ?_)
  · replace h := b_wp_t c1 h
    refine v_iconst ⟨by decide, by decide⟩ dX10_isBlank_12 ?_
    refine v_goto (tgt := 17) dX10_isBlank_13 (by decide) ?_
    refine v_zreturn rfl (Or.inr rfl) dX10_isBlank_17 ⟨by decide, by decide⟩ ?_
    exact ⟨_, rfl, rfl, h⟩
  · replace h := b_wp_f c1 h
    refine v_iload_n (f := 0) 0 rfl dX10_isBlank_6 ?_
    refine v_bipush ⟨by decide, by decide⟩ (by decide) dX10_isBlank_7 ?_
    refine v_icmp_ne (tgt := 16) dX10_isBlank_9 (by decide) (fun c2 => ?_) (fun c2 => ?_)
    · replace h := b_wp_f c2 h
      refine v_iconst ⟨by decide, by decide⟩ dX10_isBlank_16 ?_
      refine v_zreturn rfl (Or.inl rfl) dX10_isBlank_17 ⟨by decide, by decide⟩ ?_
      exact ⟨_, rfl, rfl, h⟩
    · replace h := b_wp_t c2 h
      refine v_iconst ⟨by decide, by decide⟩ dX10_isBlank_12 ?_
      refine v_goto (tgt := 17) dX10_isBlank_13 (by decide) ?_
      refine v_zreturn rfl (Or.inr rfl) dX10_isBlank_17 ⟨by decide, by decide⟩ ?_
      exact ⟨_, rfl, rfl, h⟩
theorem cf_X10_isBlank {l : Launch} {E : bE} {M : bM} {v0 : Int} {Q : Int → Prop} (h : b_wp (F_X10_isBlank v0 M) Q) : b_C l E xX10_isBlank yX10_isBlank [bI v0] M (b_pIp M Q) := b_met (by decide) ⟨rfl, rfl⟩ (Nat.le_of_ble_eq_true rfl) (fun _ _ => t_X10_isBlank h)
abbrev xX10_isLetter : bX := ("BurntHall$Tape", prog_12_method_12_code, 1, (Option.some Jvm.ClassFile.FieldType.boolean), b_rm 1 0 0, 0, "isLetter")
abbrev yX10_isLetter : MethodName := ⟨"BurntHall$Tape", "isLetter", "(I)Z"⟩
theorem dX10_isLetter_0 : decode prog_12_method_12_code 0 = .ok (.iload_n 0, 1) := by decide +kernel
theorem dX10_isLetter_1 : decode prog_12_method_12_code 1 = .ok (.bipush 97, 2) := by decide +kernel
theorem dX10_isLetter_3 : decode prog_12_method_12_code 3 = .ok (.if_icmp .lt 13, 3) := by decide +kernel
theorem dX10_isLetter_6 : decode prog_12_method_12_code 6 = .ok (.iload_n 0, 1) := by decide +kernel
theorem dX10_isLetter_7 : decode prog_12_method_12_code 7 = .ok (.bipush 122, 2) := by decide +kernel
theorem dX10_isLetter_9 : decode prog_12_method_12_code 9 = .ok (.if_icmp .gt 7, 3) := by decide +kernel
theorem dX10_isLetter_12 : decode prog_12_method_12_code 12 = .ok (.iconst 1, 1) := by decide +kernel
theorem dX10_isLetter_13 : decode prog_12_method_12_code 13 = .ok (.goto 4, 3) := by decide +kernel
theorem dX10_isLetter_16 : decode prog_12_method_12_code 16 = .ok (.iconst 0, 1) := by decide +kernel
theorem dX10_isLetter_17 : decode prog_12_method_12_code 17 = .ok (.ireturn, 1) := by decide +kernel
noncomputable def F_X10_isLetter (v0 : Int) (M : bM) : Option (Int) :=
  if v0 < 97 then (some 0) else (if 122 < v0 then (some 0) else (some 1))
theorem t_X10_isLetter {l : Launch} {E : bE} {Q : Int → Prop} {v0 : Int} {M : bM} (h : b_wp (F_X10_isLetter v0 M) (Q)) : V l E xX10_isLetter (0, 0) 0 [(0, bI v0)] [] M (b_pIp M Q) := by
  unfold F_X10_isLetter at h
  refine v_iload_n (f := 0) 0 rfl dX10_isLetter_0 ?_
  refine v_bipush ⟨by decide, by decide⟩ (by decide) dX10_isLetter_1 ?_
  refine v_icmp_lt (tgt := 16) dX10_isLetter_3 (by decide) (fun c1 => ?_) (fun c1 => ?_)
  · replace h := b_wp_t c1 h
    refine v_iconst ⟨by decide, by decide⟩ dX10_isLetter_16 ?_
    refine v_zreturn rfl (Or.inl rfl) dX10_isLetter_17 ⟨by decide, by decide⟩ ?_
    exact ⟨_, rfl, rfl, h⟩
  · replace h := b_wp_f c1 h
    refine v_iload_n (f := 0) 0 rfl dX10_isLetter_6 ?_
    refine v_bipush ⟨by decide, by decide⟩ (by decide) dX10_isLetter_7 ?_
    refine v_icmp_gt (tgt := 16) dX10_isLetter_9 (by decide) (fun c2 => ?_) (fun c2 => ?_)
    · replace h := b_wp_t c2 h
      refine v_iconst ⟨by decide, by decide⟩ dX10_isLetter_16 ?_
      refine v_zreturn rfl (Or.inl rfl) dX10_isLetter_17 ⟨by decide, by decide⟩ ?_
      exact ⟨_, rfl, rfl, h⟩
    · replace h := b_wp_f c2 h
      refine v_iconst ⟨by decide, by decide⟩ dX10_isLetter_12 ?_
      refine v_goto (tgt := 17) dX10_isLetter_13 (by decide) ?_
      refine v_zreturn rfl (Or.inr rfl) dX10_isLetter_17 ⟨by decide, by decide⟩ ?_
      exact ⟨_, rfl, rfl, h⟩
theorem cf_X10_isLetter {l : Launch} {E : bE} {M : bM} {v0 : Int} {Q : Int → Prop} (h : b_wp (F_X10_isLetter v0 M) Q) : b_C l E xX10_isLetter yX10_isLetter [bI v0] M (b_pIp M Q) := b_met (by decide) ⟨rfl, rfl⟩ (Nat.le_of_ble_eq_true rfl) (fun _ _ => t_X10_isLetter h)
abbrev xX10_isDigit : bX := ("BurntHall$Tape", prog_12_method_13_code, 1, (Option.some Jvm.ClassFile.FieldType.boolean), b_rm 1 0 0, 0, "isDigit")
abbrev yX10_isDigit : MethodName := ⟨"BurntHall$Tape", "isDigit", "(I)Z"⟩
theorem dX10_isDigit_0 : decode prog_12_method_13_code 0 = .ok (.iload_n 0, 1) := by decide +kernel
theorem dX10_isDigit_1 : decode prog_12_method_13_code 1 = .ok (.bipush 48, 2) := by decide +kernel
theorem dX10_isDigit_3 : decode prog_12_method_13_code 3 = .ok (.if_icmp .lt 13, 3) := by decide +kernel
theorem dX10_isDigit_6 : decode prog_12_method_13_code 6 = .ok (.iload_n 0, 1) := by decide +kernel
theorem dX10_isDigit_7 : decode prog_12_method_13_code 7 = .ok (.bipush 57, 2) := by decide +kernel
theorem dX10_isDigit_9 : decode prog_12_method_13_code 9 = .ok (.if_icmp .gt 7, 3) := by decide +kernel
theorem dX10_isDigit_12 : decode prog_12_method_13_code 12 = .ok (.iconst 1, 1) := by decide +kernel
theorem dX10_isDigit_13 : decode prog_12_method_13_code 13 = .ok (.goto 4, 3) := by decide +kernel
theorem dX10_isDigit_16 : decode prog_12_method_13_code 16 = .ok (.iconst 0, 1) := by decide +kernel
theorem dX10_isDigit_17 : decode prog_12_method_13_code 17 = .ok (.ireturn, 1) := by decide +kernel
noncomputable def F_X10_isDigit (v0 : Int) (M : bM) : Option (Int) :=
  if v0 < 48 then (some 0) else (if 57 < v0 then (some 0) else (some 1))
theorem t_X10_isDigit {l : Launch} {E : bE} {Q : Int → Prop} {v0 : Int} {M : bM} (h : b_wp (F_X10_isDigit v0 M) (Q)) : V l E xX10_isDigit (0, 0) 0 [(0, bI v0)] [] M (b_pIp M Q) := by
  unfold F_X10_isDigit at h
  refine v_iload_n (f := 0) 0 rfl dX10_isDigit_0 ?_
  refine v_bipush ⟨by decide, by decide⟩ (by decide) dX10_isDigit_1 ?_
  refine v_icmp_lt (tgt := 16) dX10_isDigit_3 (by decide) (fun c1 => ?_) (fun c1 => ?_)
  · replace h := b_wp_t c1 h
    refine v_iconst ⟨by decide, by decide⟩ dX10_isDigit_16 ?_
    refine v_zreturn rfl (Or.inl rfl) dX10_isDigit_17 ⟨by decide, by decide⟩ ?_
    exact ⟨_, rfl, rfl, h⟩
  · replace h := b_wp_f c1 h
    refine v_iload_n (f := 0) 0 rfl dX10_isDigit_6 ?_
    refine v_bipush ⟨by decide, by decide⟩ (by decide) dX10_isDigit_7 ?_
    refine v_icmp_gt (tgt := 16) dX10_isDigit_9 (by decide) (fun c2 => ?_) (fun c2 => ?_)
    · replace h := b_wp_t c2 h
      refine v_iconst ⟨by decide, by decide⟩ dX10_isDigit_16 ?_
      refine v_zreturn rfl (Or.inl rfl) dX10_isDigit_17 ⟨by decide, by decide⟩ ?_
      exact ⟨_, rfl, rfl, h⟩
    · replace h := b_wp_f c2 h
      refine v_iconst ⟨by decide, by decide⟩ dX10_isDigit_12 ?_
      refine v_goto (tgt := 17) dX10_isDigit_13 (by decide) ?_
      refine v_zreturn rfl (Or.inr rfl) dX10_isDigit_17 ⟨by decide, by decide⟩ ?_
      exact ⟨_, rfl, rfl, h⟩
theorem cf_X10_isDigit {l : Launch} {E : bE} {M : bM} {v0 : Int} {Q : Int → Prop} (h : b_wp (F_X10_isDigit v0 M) Q) : b_C l E xX10_isDigit yX10_isDigit [bI v0] M (b_pIp M Q) := b_met (by decide) ⟨rfl, rfl⟩ (Nat.le_of_ble_eq_true rfl) (fun _ _ => t_X10_isDigit h)
abbrev xX10_isSignByte : bX := ("BurntHall$Tape", prog_12_method_15_code, 1, (Option.some Jvm.ClassFile.FieldType.boolean), b_rm 1 0 0, 0, "isSignByte")
abbrev yX10_isSignByte : MethodName := ⟨"BurntHall$Tape", "isSignByte", "(I)Z"⟩
theorem dX10_isSignByte_0 : decode prog_12_method_15_code 0 = .ok (.iload_n 0, 1) := by decide +kernel
theorem dX10_isSignByte_1 : decode prog_12_method_15_code 1 = .ok (.bipush 59, 2) := by decide +kernel
theorem dX10_isSignByte_3 : decode prog_12_method_15_code 3 = .ok (.if_icmp .eq 27, 3) := by decide +kernel
theorem dX10_isSignByte_6 : decode prog_12_method_15_code 6 = .ok (.iload_n 0, 1) := by decide +kernel
theorem dX10_isSignByte_7 : decode prog_12_method_15_code 7 = .ok (.bipush 61, 2) := by decide +kernel
theorem dX10_isSignByte_9 : decode prog_12_method_15_code 9 = .ok (.if_icmp .eq 21, 3) := by decide +kernel
theorem dX10_isSignByte_12 : decode prog_12_method_15_code 12 = .ok (.iload_n 0, 1) := by decide +kernel
theorem dX10_isSignByte_13 : decode prog_12_method_15_code 13 = .ok (.bipush 40, 2) := by decide +kernel
theorem dX10_isSignByte_15 : decode prog_12_method_15_code 15 = .ok (.if_icmp .eq 15, 3) := by decide +kernel
theorem dX10_isSignByte_18 : decode prog_12_method_15_code 18 = .ok (.iload_n 0, 1) := by decide +kernel
theorem dX10_isSignByte_19 : decode prog_12_method_15_code 19 = .ok (.bipush 41, 2) := by decide +kernel
theorem dX10_isSignByte_21 : decode prog_12_method_15_code 21 = .ok (.if_icmp .eq 9, 3) := by decide +kernel
theorem dX10_isSignByte_24 : decode prog_12_method_15_code 24 = .ok (.iload_n 0, 1) := by decide +kernel
theorem dX10_isSignByte_25 : decode prog_12_method_15_code 25 = .ok (.bipush 43, 2) := by decide +kernel
theorem dX10_isSignByte_27 : decode prog_12_method_15_code 27 = .ok (.if_icmp .ne 7, 3) := by decide +kernel
theorem dX10_isSignByte_30 : decode prog_12_method_15_code 30 = .ok (.iconst 1, 1) := by decide +kernel
theorem dX10_isSignByte_31 : decode prog_12_method_15_code 31 = .ok (.goto 4, 3) := by decide +kernel
theorem dX10_isSignByte_34 : decode prog_12_method_15_code 34 = .ok (.iconst 0, 1) := by decide +kernel
theorem dX10_isSignByte_35 : decode prog_12_method_15_code 35 = .ok (.ireturn, 1) := by decide +kernel
noncomputable def F_X10_isSignByte (v0 : Int) (M : bM) : Option (Int) :=
  if v0 = 59 then (some 1) else (if v0 = 61 then (some 1) else (if v0 = 40 then (some 1) else (if v0 = 41 then (some 1) else (if v0 = 43 then (some 1) else (some 0)))))
theorem t_X10_isSignByte {l : Launch} {E : bE} {Q : Int → Prop} {v0 : Int} {M : bM} (h : b_wp (F_X10_isSignByte v0 M) (Q)) : V l E xX10_isSignByte (0, 0) 0 [(0, bI v0)] [] M (b_pIp M Q) := by
  unfold F_X10_isSignByte at h
  refine v_iload_n (f := 0) 0 rfl dX10_isSignByte_0 ?_
  refine v_bipush ⟨by decide, by decide⟩ (by decide) dX10_isSignByte_1 ?_
  refine v_icmp_eq (tgt := 30) dX10_isSignByte_3 (by decide) (fun c1 => ?_) (fun c1 => ?_)
  · replace h := b_wp_t c1 h
    refine v_iconst ⟨by decide, by decide⟩ dX10_isSignByte_30 ?_
    refine v_goto (tgt := 35) dX10_isSignByte_31 (by decide) ?_
    refine v_zreturn rfl (Or.inr rfl) dX10_isSignByte_35 ⟨by decide, by decide⟩ ?_
    exact ⟨_, rfl, rfl, h⟩
  · replace h := b_wp_f c1 h
    refine v_iload_n (f := 0) 0 rfl dX10_isSignByte_6 ?_
    refine v_bipush ⟨by decide, by decide⟩ (by decide) dX10_isSignByte_7 ?_
    refine v_icmp_eq (tgt := 30) dX10_isSignByte_9 (by decide) (fun c2 => ?_) (fun c2 => ?_)
    · replace h := b_wp_t c2 h
      refine v_iconst ⟨by decide, by decide⟩ dX10_isSignByte_30 ?_
      refine v_goto (tgt := 35) dX10_isSignByte_31 (by decide) ?_
      refine v_zreturn rfl (Or.inr rfl) dX10_isSignByte_35 ⟨by decide, by decide⟩ ?_
      exact ⟨_, rfl, rfl, h⟩
    · replace h := b_wp_f c2 h
      refine v_iload_n (f := 0) 0 rfl dX10_isSignByte_12 ?_
      refine v_bipush ⟨by decide, by decide⟩ (by decide) dX10_isSignByte_13 ?_
      refine v_icmp_eq (tgt := 30) dX10_isSignByte_15 (by decide) (fun c3 => ?_) (fun c3 => ?_)
      · replace h := b_wp_t c3 h
        refine v_iconst ⟨by decide, by decide⟩ dX10_isSignByte_30 ?_
        refine v_goto (tgt := 35) dX10_isSignByte_31 (by decide) ?_
        refine v_zreturn rfl (Or.inr rfl) dX10_isSignByte_35 ⟨by decide, by decide⟩ ?_
        exact ⟨_, rfl, rfl, h⟩
      · replace h := b_wp_f c3 h
        refine v_iload_n (f := 0) 0 rfl dX10_isSignByte_18 ?_
        refine v_bipush ⟨by decide, by decide⟩ (by decide) dX10_isSignByte_19 ?_
        refine v_icmp_eq (tgt := 30) dX10_isSignByte_21 (by decide) (fun c4 => ?_) (fun c4 => ?_)
        · replace h := b_wp_t c4 h
          refine v_iconst ⟨by decide, by decide⟩ dX10_isSignByte_30 ?_
          refine v_goto (tgt := 35) dX10_isSignByte_31 (by decide) ?_
          refine v_zreturn rfl (Or.inr rfl) dX10_isSignByte_35 ⟨by decide, by decide⟩ ?_
          exact ⟨_, rfl, rfl, h⟩
        · replace h := b_wp_f c4 h
          refine v_iload_n (f := 0) 0 rfl dX10_isSignByte_24 ?_
          refine v_bipush ⟨by decide, by decide⟩ (by decide) dX10_isSignByte_25 ?_
          refine v_icmp_ne (tgt := 34) dX10_isSignByte_27 (by decide) (fun c5 => ?_) (fun c5 => ?_)
          · replace h := b_wp_f c5 h
            refine v_iconst ⟨by decide, by decide⟩ dX10_isSignByte_34 ?_
            refine v_zreturn rfl (Or.inl rfl) dX10_isSignByte_35 ⟨by decide, by decide⟩ ?_
            exact ⟨_, rfl, rfl, h⟩
          · replace h := b_wp_t c5 h
            refine v_iconst ⟨by decide, by decide⟩ dX10_isSignByte_30 ?_
            refine v_goto (tgt := 35) dX10_isSignByte_31 (by decide) ?_
            refine v_zreturn rfl (Or.inr rfl) dX10_isSignByte_35 ⟨by decide, by decide⟩ ?_
            exact ⟨_, rfl, rfl, h⟩
theorem cf_X10_isSignByte {l : Launch} {E : bE} {M : bM} {v0 : Int} {Q : Int → Prop} (h : b_wp (F_X10_isSignByte v0 M) Q) : b_C l E xX10_isSignByte yX10_isSignByte [bI v0] M (b_pIp M Q) := b_met (by decide) ⟨rfl, rfl⟩ (Nat.le_of_ble_eq_true rfl) (fun _ _ => t_X10_isSignByte h)
noncomputable def F_X10_withLetter (v0 : Int) (v2 : Int) (M : bM) : Option (Int) :=
  b_g ((b_i32 (v2 - 97)) ∧ (b_i32 ((v2 - 97) + 1))) (some (j_or (j_shl v0 5) ((v2 - 97) + 1)))
theorem t_X10_withLetter {l : Launch} {E : bE} {Q : Int → Prop} {v0 : Int} {v2 : Int} {M : bM} (h : b_wp (F_X10_withLetter v0 v2 M) (Q)) : V l E xX10_withLetter (0, 0) 0 [(0, bJ v0), (2, bI v2)] [] M (b_pJp M Q) := by
  unfold F_X10_withLetter at h
  obtain ⟨⟨g1, g2⟩, h⟩ := b_wp_g h
  refine v_lload_n (f := 0) 0 rfl dX10_withLetter_0 ?_
  refine v_iconst ⟨by decide, by decide⟩ dX10_withLetter_1 ?_
  refine v_lshl (v := j_shl _ _) rfl dX10_withLetter_2 ?_
  refine v_iload_n (f := 2) 1 rfl dX10_withLetter_3 ?_
  refine v_bipush ⟨by decide, by decide⟩ (by decide) dX10_withLetter_4 ?_
  refine v_isubN g1 dX10_withLetter_6 ?_
  refine v_iconst ⟨by decide, by decide⟩ dX10_withLetter_7 ?_
  refine v_iaddN g2 dX10_withLetter_8 ?_
  refine v_i2lN dX10_withLetter_9 ?_
  refine v_lor (v := j_or _ _) rfl dX10_withLetter_10 ?_
  refine v_lreturn rfl dX10_withLetter_11 ⟨by decide, by decide⟩ ?_
  exact ⟨_, rfl, rfl, h⟩
theorem cf_X10_withLetter {l : Launch} {E : bE} {M : bM} {v0 : Int} {v2 : Int} {Q : Int → Prop} (h : b_wp (F_X10_withLetter v0 v2 M) Q) : b_C l E xX10_withLetter yX10_withLetter [bJ v0, bI v2] M (b_pJp M Q) := b_met (by decide) ⟨rfl, rfl⟩ (Nat.le_of_ble_eq_true rfl) (fun _ _ => t_X10_withLetter h)
abbrev xX10_step : bX := ("BurntHall$Tape", prog_12_method_7_code, 4, (Option.none : Option Jvm.ClassFile.FieldType), b_rm 2 0 0, 0, "step")
abbrev yX10_step : MethodName := ⟨"BurntHall$Tape", "step", "()V"⟩
theorem dX10_step_0 : decode prog_12_method_7_code 0 = .ok (.aload_n 0, 1) := by decide +kernel
theorem dX10_step_1 : decode prog_12_method_7_code 1 = .ok (.getfield 28, 3) := by decide +kernel
theorem dX10_step_4 : decode prog_12_method_7_code 4 = .ok (.istore_n 1, 1) := by decide +kernel
theorem dX10_step_5 : decode prog_12_method_7_code 5 = .ok (.iload_n 1, 1) := by decide +kernel
theorem dX10_step_6 : decode prog_12_method_7_code 6 = .ok (.aload_n 0, 1) := by decide +kernel
theorem dX10_step_7 : decode prog_12_method_7_code 7 = .ok (.getfield 19, 3) := by decide +kernel
theorem dX10_step_10 : decode prog_12_method_7_code 10 = .ok (.if_icmp .ge 20, 3) := by decide +kernel
theorem dX10_step_13 : decode prog_12_method_7_code 13 = .ok (.aload_n 0, 1) := by decide +kernel
theorem dX10_step_14 : decode prog_12_method_7_code 14 = .ok (.iload_n 1, 1) := by decide +kernel
theorem dX10_step_15 : decode prog_12_method_7_code 15 = .ok (.invokevirtual 34, 3) := by decide +kernel
theorem dX10_step_18 : decode prog_12_method_7_code 18 = .ok (.invokestatic 38, 3) := by decide +kernel
theorem dX10_step_21 : decode prog_12_method_7_code 21 = .ok (.ifCond .eq 9, 3) := by decide +kernel
theorem dX10_step_24 : decode prog_12_method_7_code 24 = .ok (.iinc 1 1, 3) := by decide +kernel
theorem dX10_step_27 : decode prog_12_method_7_code 27 = .ok (.goto (-22), 3) := by decide +kernel
theorem dX10_step_30 : decode prog_12_method_7_code 30 = .ok (.iload_n 1, 1) := by decide +kernel
theorem dX10_step_31 : decode prog_12_method_7_code 31 = .ok (.istore_n 2, 1) := by decide +kernel
theorem dX10_step_32 : decode prog_12_method_7_code 32 = .ok (.aload_n 0, 1) := by decide +kernel
theorem dX10_step_33 : decode prog_12_method_7_code 33 = .ok (.iload_n 1, 1) := by decide +kernel
theorem dX10_step_34 : decode prog_12_method_7_code 34 = .ok (.invokevirtual 34, 3) := by decide +kernel
theorem dX10_step_37 : decode prog_12_method_7_code 37 = .ok (.istore_n 3, 1) := by decide +kernel
theorem dX10_step_38 : decode prog_12_method_7_code 38 = .ok (.aload_n 0, 1) := by decide +kernel
theorem dX10_step_39 : decode prog_12_method_7_code 39 = .ok (.lconst 0, 1) := by decide +kernel
theorem dX10_step_40 : decode prog_12_method_7_code 40 = .ok (.putfield 42, 3) := by decide +kernel
theorem dX10_step_43 : decode prog_12_method_7_code 43 = .ok (.iload_n 3, 1) := by decide +kernel
theorem dX10_step_44 : decode prog_12_method_7_code 44 = .ok (.invokestatic 46, 3) := by decide +kernel
theorem dX10_step_47 : decode prog_12_method_7_code 47 = .ok (.ifCond .eq 64, 3) := by decide +kernel
theorem dX10_step_50 : decode prog_12_method_7_code 50 = .ok (.iload_n 2, 1) := by decide +kernel
theorem dX10_step_51 : decode prog_12_method_7_code 51 = .ok (.aload_n 0, 1) := by decide +kernel
theorem dX10_step_52 : decode prog_12_method_7_code 52 = .ok (.getfield 19, 3) := by decide +kernel
theorem dX10_step_55 : decode prog_12_method_7_code 55 = .ok (.if_icmp .ge 36, 3) := by decide +kernel
theorem dX10_step_58 : decode prog_12_method_7_code 58 = .ok (.aload_n 0, 1) := by decide +kernel
theorem dX10_step_59 : decode prog_12_method_7_code 59 = .ok (.iload_n 2, 1) := by decide +kernel
theorem dX10_step_60 : decode prog_12_method_7_code 60 = .ok (.invokevirtual 34, 3) := by decide +kernel
theorem dX10_step_63 : decode prog_12_method_7_code 63 = .ok (.invokestatic 46, 3) := by decide +kernel
theorem dX10_step_66 : decode prog_12_method_7_code 66 = .ok (.ifCond .eq 25, 3) := by decide +kernel
theorem dX10_step_69 : decode prog_12_method_7_code 69 = .ok (.aload_n 0, 1) := by decide +kernel
theorem dX10_step_70 : decode prog_12_method_7_code 70 = .ok (.aload_n 0, 1) := by decide +kernel
theorem dX10_step_71 : decode prog_12_method_7_code 71 = .ok (.getfield 42, 3) := by decide +kernel
theorem dX10_step_74 : decode prog_12_method_7_code 74 = .ok (.aload_n 0, 1) := by decide +kernel
theorem dX10_step_75 : decode prog_12_method_7_code 75 = .ok (.iload_n 2, 1) := by decide +kernel
theorem dX10_step_76 : decode prog_12_method_7_code 76 = .ok (.invokevirtual 34, 3) := by decide +kernel
theorem dX10_step_79 : decode prog_12_method_7_code 79 = .ok (.invokestatic 49, 3) := by decide +kernel
theorem dX10_step_82 : decode prog_12_method_7_code 82 = .ok (.putfield 42, 3) := by decide +kernel
theorem dX10_step_85 : decode prog_12_method_7_code 85 = .ok (.iinc 2 1, 3) := by decide +kernel
theorem dX10_step_88 : decode prog_12_method_7_code 88 = .ok (.goto (-38), 3) := by decide +kernel
theorem dX10_step_91 : decode prog_12_method_7_code 91 = .ok (.aload_n 0, 1) := by decide +kernel
theorem dX10_step_92 : decode prog_12_method_7_code 92 = .ok (.iload_n 2, 1) := by decide +kernel
theorem dX10_step_93 : decode prog_12_method_7_code 93 = .ok (.iload_n 1, 1) := by decide +kernel
theorem dX10_step_94 : decode prog_12_method_7_code 94 = .ok (.isub, 1) := by decide +kernel
theorem dX10_step_95 : decode prog_12_method_7_code 95 = .ok (.bipush 12, 2) := by decide +kernel
theorem dX10_step_97 : decode prog_12_method_7_code 97 = .ok (.if_icmp .le 7, 3) := by decide +kernel
theorem dX10_step_100 : decode prog_12_method_7_code 100 = .ok (.iconst 4, 1) := by decide +kernel
theorem dX10_step_101 : decode prog_12_method_7_code 101 = .ok (.goto 4, 3) := by decide +kernel
theorem dX10_step_104 : decode prog_12_method_7_code 104 = .ok (.iconst 1, 1) := by decide +kernel
theorem dX10_step_105 : decode prog_12_method_7_code 105 = .ok (.putfield 53, 3) := by decide +kernel
theorem dX10_step_108 : decode prog_12_method_7_code 108 = .ok (.goto 118, 3) := by decide +kernel
theorem dX10_step_111 : decode prog_12_method_7_code 111 = .ok (.iload_n 3, 1) := by decide +kernel
theorem dX10_step_112 : decode prog_12_method_7_code 112 = .ok (.invokestatic 56, 3) := by decide +kernel
theorem dX10_step_115 : decode prog_12_method_7_code 115 = .ok (.ifCond .eq 70, 3) := by decide +kernel
theorem dX10_step_118 : decode prog_12_method_7_code 118 = .ok (.iload_n 2, 1) := by decide +kernel
theorem dX10_step_119 : decode prog_12_method_7_code 119 = .ok (.aload_n 0, 1) := by decide +kernel
theorem dX10_step_120 : decode prog_12_method_7_code 120 = .ok (.getfield 19, 3) := by decide +kernel
theorem dX10_step_123 : decode prog_12_method_7_code 123 = .ok (.if_icmp .ge 43, 3) := by decide +kernel
theorem dX10_step_126 : decode prog_12_method_7_code 126 = .ok (.aload_n 0, 1) := by decide +kernel
theorem dX10_step_127 : decode prog_12_method_7_code 127 = .ok (.iload_n 2, 1) := by decide +kernel
theorem dX10_step_128 : decode prog_12_method_7_code 128 = .ok (.invokevirtual 34, 3) := by decide +kernel
theorem dX10_step_131 : decode prog_12_method_7_code 131 = .ok (.invokestatic 56, 3) := by decide +kernel
theorem dX10_step_134 : decode prog_12_method_7_code 134 = .ok (.ifCond .eq 32, 3) := by decide +kernel
theorem dX10_step_137 : decode prog_12_method_7_code 137 = .ok (.aload_n 0, 1) := by decide +kernel
theorem dX10_step_138 : decode prog_12_method_7_code 138 = .ok (.aload_n 0, 1) := by decide +kernel
theorem dX10_step_139 : decode prog_12_method_7_code 139 = .ok (.getfield 42, 3) := by decide +kernel
theorem dX10_step_142 : decode prog_12_method_7_code 142 = .ok (.ldc2_w 59, 3) := by decide +kernel
theorem dX10_step_145 : decode prog_12_method_7_code 145 = .ok (.lmul, 1) := by decide +kernel
theorem dX10_step_146 : decode prog_12_method_7_code 146 = .ok (.aload_n 0, 1) := by decide +kernel
theorem dX10_step_147 : decode prog_12_method_7_code 147 = .ok (.iload_n 2, 1) := by decide +kernel
theorem dX10_step_148 : decode prog_12_method_7_code 148 = .ok (.invokevirtual 34, 3) := by decide +kernel
theorem dX10_step_151 : decode prog_12_method_7_code 151 = .ok (.i2l, 1) := by decide +kernel
theorem dX10_step_152 : decode prog_12_method_7_code 152 = .ok (.ladd, 1) := by decide +kernel
theorem dX10_step_153 : decode prog_12_method_7_code 153 = .ok (.ldc2_w 61, 3) := by decide +kernel
theorem dX10_step_156 : decode prog_12_method_7_code 156 = .ok (.lsub, 1) := by decide +kernel
theorem dX10_step_157 : decode prog_12_method_7_code 157 = .ok (.putfield 42, 3) := by decide +kernel
theorem dX10_step_160 : decode prog_12_method_7_code 160 = .ok (.iinc 2 1, 3) := by decide +kernel
theorem dX10_step_163 : decode prog_12_method_7_code 163 = .ok (.goto (-45), 3) := by decide +kernel
theorem dX10_step_166 : decode prog_12_method_7_code 166 = .ok (.aload_n 0, 1) := by decide +kernel
theorem dX10_step_167 : decode prog_12_method_7_code 167 = .ok (.iload_n 2, 1) := by decide +kernel
theorem dX10_step_168 : decode prog_12_method_7_code 168 = .ok (.iload_n 1, 1) := by decide +kernel
theorem dX10_step_169 : decode prog_12_method_7_code 169 = .ok (.isub, 1) := by decide +kernel
theorem dX10_step_170 : decode prog_12_method_7_code 170 = .ok (.iconst 4, 1) := by decide +kernel
theorem dX10_step_171 : decode prog_12_method_7_code 171 = .ok (.if_icmp .le 7, 3) := by decide +kernel
theorem dX10_step_174 : decode prog_12_method_7_code 174 = .ok (.iconst 4, 1) := by decide +kernel
theorem dX10_step_175 : decode prog_12_method_7_code 175 = .ok (.goto 4, 3) := by decide +kernel
theorem dX10_step_178 : decode prog_12_method_7_code 178 = .ok (.iconst 2, 1) := by decide +kernel
theorem dX10_step_179 : decode prog_12_method_7_code 179 = .ok (.putfield 53, 3) := by decide +kernel
theorem dX10_step_182 : decode prog_12_method_7_code 182 = .ok (.goto 44, 3) := by decide +kernel
theorem dX10_step_185 : decode prog_12_method_7_code 185 = .ok (.iload_n 1, 1) := by decide +kernel
theorem dX10_step_186 : decode prog_12_method_7_code 186 = .ok (.aload_n 0, 1) := by decide +kernel
theorem dX10_step_187 : decode prog_12_method_7_code 187 = .ok (.getfield 19, 3) := by decide +kernel
theorem dX10_step_190 : decode prog_12_method_7_code 190 = .ok (.if_icmp .ge 31, 3) := by decide +kernel
theorem dX10_step_193 : decode prog_12_method_7_code 193 = .ok (.aload_n 0, 1) := by decide +kernel
theorem dX10_step_194 : decode prog_12_method_7_code 194 = .ok (.iload_n 3, 1) := by decide +kernel
theorem dX10_step_195 : decode prog_12_method_7_code 195 = .ok (.invokestatic 63, 3) := by decide +kernel
theorem dX10_step_198 : decode prog_12_method_7_code 198 = .ok (.ifCond .eq 7, 3) := by decide +kernel
theorem dX10_step_201 : decode prog_12_method_7_code 201 = .ok (.iconst 3, 1) := by decide +kernel
theorem dX10_step_202 : decode prog_12_method_7_code 202 = .ok (.goto 4, 3) := by decide +kernel
theorem dX10_step_205 : decode prog_12_method_7_code 205 = .ok (.iconst 4, 1) := by decide +kernel
theorem dX10_step_206 : decode prog_12_method_7_code 206 = .ok (.putfield 53, 3) := by decide +kernel
theorem dX10_step_209 : decode prog_12_method_7_code 209 = .ok (.aload_n 0, 1) := by decide +kernel
theorem dX10_step_210 : decode prog_12_method_7_code 210 = .ok (.iload_n 3, 1) := by decide +kernel
theorem dX10_step_211 : decode prog_12_method_7_code 211 = .ok (.i2l, 1) := by decide +kernel
theorem dX10_step_212 : decode prog_12_method_7_code 212 = .ok (.putfield 42, 3) := by decide +kernel
theorem dX10_step_215 : decode prog_12_method_7_code 215 = .ok (.iinc 2 1, 3) := by decide +kernel
theorem dX10_step_218 : decode prog_12_method_7_code 218 = .ok (.goto 8, 3) := by decide +kernel
theorem dX10_step_221 : decode prog_12_method_7_code 221 = .ok (.aload_n 0, 1) := by decide +kernel
theorem dX10_step_222 : decode prog_12_method_7_code 222 = .ok (.iconst 0, 1) := by decide +kernel
theorem dX10_step_223 : decode prog_12_method_7_code 223 = .ok (.putfield 53, 3) := by decide +kernel
theorem dX10_step_226 : decode prog_12_method_7_code 226 = .ok (.aload_n 0, 1) := by decide +kernel
theorem dX10_step_227 : decode prog_12_method_7_code 227 = .ok (.iload_n 1, 1) := by decide +kernel
theorem dX10_step_228 : decode prog_12_method_7_code 228 = .ok (.putfield 66, 3) := by decide +kernel
theorem dX10_step_231 : decode prog_12_method_7_code 231 = .ok (.aload_n 0, 1) := by decide +kernel
theorem dX10_step_232 : decode prog_12_method_7_code 232 = .ok (.iload_n 2, 1) := by decide +kernel
theorem dX10_step_233 : decode prog_12_method_7_code 233 = .ok (.putfield 28, 3) := by decide +kernel
theorem dX10_step_236 : decode prog_12_method_7_code 236 = .ok (.return_, 1) := by decide +kernel
abbrev A_X10_step_5 (l : Launch) (E : bE) (Q : bM → Prop) (M : bM) : (Int) → Prop := (fun t : Int => V l E xX10_step (0, 0) 5 [(0, bR 1), (1, bI t)] [] M (b_pV Q))
abbrev X_X10_step_5 (l : Launch) (E : bE) (Q : bM → Prop) (M : bM) : (Int) → Prop := (fun t : Int => V l E xX10_step (0, 0) 30 [(0, bR 1), (1, bI t)] [] M (b_pV Q))
noncomputable def F_X10_step_s5 (v1 : Int) (M : bM) : Option ((Int) ⊕ (Int)) :=
  if (M 1 1) ≤ v1 then (some (.inr (v1))) else (b_bind (F_X10_byteAt v1 M) (fun x2 => b_bind (F_X10_isBlank x2 M) (fun x3 => if x3 = 0 then (some (.inr (v1))) else (b_g (b_i32 (v1 + 1)) (some (.inl ((v1 + 1))))))))
theorem t_X10_step_s5 {l : Launch} {E : bE} {Q : bM → Prop} {v1 : Int} {M : bM} (h : b_wp (F_X10_step_s5 v1 M) (Sum.elim (A_X10_step_5 l E Q M) (X_X10_step_5 l E Q M))) : V l E xX10_step (0, 0) 5 [(0, bR 1), (1, bI v1)] [] M (b_pV Q) := by
  unfold F_X10_step_s5 at h
  refine v_iload_n (f := 1) 1 rfl dX10_step_5 ?_
  refine v_aload_n (f := 0) 0 rfl dX10_step_6 ?_
  refine v_getI (kf := 1) (kz := 1) rfl kd_1 rfl ⟨by decide, by decide⟩ rfl wf_10_19 dX10_step_7 ?_
  refine v_icmp_ge (tgt := 30) dX10_step_10 (by decide) (fun c1 => ?_) (fun c1 => ?_)
  · replace h := b_wp_t c1 h
    exact h
  · replace h := b_wp_f c1 h
    refine v_aload_n (f := 0) 0 rfl dX10_step_13 ?_
    refine v_iload_n (f := 1) 1 rfl dX10_step_14 ?_
    refine v_cVIp (nA := 1) (As := [bI _]) (ix := 34) (cf_X10_byteAt (b_wp_b h)) rfl kd_1 rfl rfl wc_X10_byteAt wm_10_34 wi_X10_byteAt ws_X10_byteAt wn_10 ⟨by decide, by decide, by decide⟩ rfl ⟨by decide, by decide⟩ ⟨by decide, by decide⟩ (Nat.le_of_ble_eq_true rfl) dX10_step_15 (fun x2 h => ?_)
    refine v_cSIp (nA := 1) (As := [bI _]) (ix := 38) (cf_X10_isBlank (b_wp_b h)) rfl wc_X10_isBlank wm_10_38 wi_X10_isBlank wn_10 ⟨by decide, by decide, by decide⟩ rfl ⟨by decide, by decide⟩ ⟨by decide, by decide⟩ (Nat.le_of_ble_eq_true rfl) dX10_step_18 (fun x3 h => ?_)
    refine v_if_eq (tgt := 30) dX10_step_21 (by decide) (fun c4 => ?_) (fun c4 => ?_)
    · replace h := b_wp_t c4 h
      exact h
    · replace h := b_wp_f c4 h
      obtain ⟨g5, h⟩ := b_wp_g h
      refine v_iincN (ls' := [(1, bI _), (0, bR _)]) 1 rfl (by decide) g5 dX10_step_24 rfl ?_
      refine v_goto (tgt := 5) dX10_step_27 (by decide) ?_
      refine v_sub (ls2 := [(0, bR _), (1, bI _)]) [1, 0] rfl ?_
      exact h
theorem l_X10_step_5 {l : Launch} {E : bE} {Q : bM → Prop} {M : bM} {s : Int} (h : b_wp (b_loop (fun t => F_X10_step_s5 t M) s) (X_X10_step_5 l E Q M)) : A_X10_step_5 l E Q M s := b_loop_wp (fun t h => t_X10_step_s5 h) s h
noncomputable def F_X10_step_b226 (v1 : Int) (v2 : Int) (M : bM) : Option (bM) :=
  b_let (b_up M 1 3 v1) (fun M14 => b_let (b_up M14 1 7 v2) (fun M15 => some M15))
theorem t_X10_step_b226 {l : Launch} {E : bE} {Q : bM → Prop} {v1 : Int} {v2 : Int} {M : bM} (h : b_wp (F_X10_step_b226 v1 v2 M) (Q)) : V l E xX10_step (0, 0) 226 [(0, bR 1), (1, bI v1), (2, bI v2)] [] M (b_pV Q) := by
  unfold F_X10_step_b226 at h
  refine v_aload_n (f := 0) 0 rfl dX10_step_226 ?_
  refine v_iload_n (f := 1) 1 rfl dX10_step_227 ?_
  refine v_putI (kf := 3) (kz := 3) rfl kd_1 rfl ⟨by decide, by decide⟩ rfl wf_10_66 rfl rfl dX10_step_228 ?_
  replace h := b_wp_l h
  refine v_aload_n (f := 0) 0 rfl dX10_step_231 ?_
  refine v_iload_n (f := 2) 2 rfl dX10_step_232 ?_
  refine v_putI (kf := 7) (kz := 7) rfl kd_1 rfl ⟨by decide, by decide⟩ rfl wf_10_28 rfl rfl dX10_step_233 ?_
  replace h := b_wp_l h
  refine v_return rfl dX10_step_236 ⟨by decide, by decide⟩ ?_
  exact ⟨rfl, h⟩
noncomputable def F_X10_step_b206 (v1 : Int) (v2 : Int) (v3 : Int) (u1 : Int) (M : bM) : Option (bM) :=
  b_let (b_up M 1 2 u1) (fun M18 => b_let (b_up M18 1 4 v3) (fun M19 => b_g (b_i32 (v2 + 1)) (F_X10_step_b226 v1 (v2 + 1) M19)))
theorem t_X10_step_b206 {l : Launch} {E : bE} {Q : bM → Prop} {v1 : Int} {v2 : Int} {v3 : Int} {u1 : Int} {M : bM} (h : b_wp (F_X10_step_b206 v1 v2 v3 u1 M) (Q)) : V l E xX10_step (0, 0) 206 [(0, bR 1), (1, bI v1), (2, bI v2), (3, bI v3)] [bI u1, bR 1] M (b_pV Q) := by
  unfold F_X10_step_b206 at h
  refine v_putI (kf := 2) (kz := 2) rfl kd_1 rfl ⟨by decide, by decide⟩ rfl wf_10_53 rfl rfl dX10_step_206 ?_
  replace h := b_wp_l h
  refine v_aload_n (f := 0) 0 rfl dX10_step_209 ?_
  refine v_iload_n (f := 3) 3 rfl dX10_step_210 ?_
  refine v_i2lN dX10_step_211 ?_
  refine v_putJ (kf := 4) (kz := 4) rfl kd_1 rfl ⟨by decide, by decide⟩ rfl wf_10_42 rfl rfl dX10_step_212 ?_
  replace h := b_wp_l h
  obtain ⟨g20, h⟩ := b_wp_g h
  refine v_iincN (ls' := [(2, bI _), (0, bR _), (1, bI _), (3, bI _)]) 2 rfl (by decide) g20 dX10_step_215 rfl ?_
  refine v_goto (tgt := 226) dX10_step_218 (by decide) ?_
  refine v_sub (ls2 := [(0, bR _), (1, bI _), (2, bI _)]) [1, 2, 0] rfl ?_
  exact t_X10_step_b226 h
abbrev A_X10_step_118 (l : Launch) (E : bE) (Q : bM → Prop) (v1 : Int) : (Int × bM) → Prop := (fun t : Int × bM => V l E xX10_step (0, 0) 118 [(0, bR 1), (1, bI v1), (2, bI (t.1))] [] t.2 (b_pV Q))
abbrev X_X10_step_118 (l : Launch) (E : bE) (Q : bM → Prop) (v1 : Int) : (Int × bM) → Prop := (fun t : Int × bM => V l E xX10_step (0, 0) 166 [(0, bR 1), (1, bI v1), (2, bI (t.1))] [] t.2 (b_pV Q))
noncomputable def F_X10_step_s118 (v1 : Int) (v2 : Int) (M : bM) : Option ((Int × bM) ⊕ (Int × bM)) :=
  if (M 1 1) ≤ v2 then (some (.inr (v2, M))) else (b_bind (F_X10_byteAt v2 M) (fun x22 => b_bind (F_X10_isDigit x22 M) (fun x23 => if x23 = 0 then (some (.inr (v2, M))) else (b_bind (F_X10_byteAt v2 M) (fun x25 => b_let (b_up M 1 4 (w64 ((w64 ((w64 ((M 1 4) * 10)) + x25)) - 48))) (fun M26 => b_g (b_i32 (v2 + 1)) (some (.inl ((v2 + 1), M26)))))))))
theorem t_X10_step_s118 {l : Launch} {E : bE} {Q : bM → Prop} {v1 : Int} {v2 : Int} {M : bM} (h : b_wp (F_X10_step_s118 v1 v2 M) (Sum.elim (A_X10_step_118 l E Q v1) (X_X10_step_118 l E Q v1))) : V l E xX10_step (0, 0) 118 [(0, bR 1), (1, bI v1), (2, bI v2)] [] M (b_pV Q) := by
  unfold F_X10_step_s118 at h
  refine v_iload_n (f := 2) 2 rfl dX10_step_118 ?_
  refine v_aload_n (f := 0) 0 rfl dX10_step_119 ?_
  refine v_getI (kf := 1) (kz := 1) rfl kd_1 rfl ⟨by decide, by decide⟩ rfl wf_10_19 dX10_step_120 ?_
  refine v_icmp_ge (tgt := 166) dX10_step_123 (by decide) (fun c21 => ?_) (fun c21 => ?_)
  · replace h := b_wp_t c21 h
    exact h
  · replace h := b_wp_f c21 h
    refine v_aload_n (f := 0) 0 rfl dX10_step_126 ?_
    refine v_iload_n (f := 2) 2 rfl dX10_step_127 ?_
    refine v_cVIp (nA := 1) (As := [bI _]) (ix := 34) (cf_X10_byteAt (b_wp_b h)) rfl kd_1 rfl rfl wc_X10_byteAt wm_10_34 wi_X10_byteAt ws_X10_byteAt wn_10 ⟨by decide, by decide, by decide⟩ rfl ⟨by decide, by decide⟩ ⟨by decide, by decide⟩ (Nat.le_of_ble_eq_true rfl) dX10_step_128 (fun x22 h => ?_)
    refine v_cSIp (nA := 1) (As := [bI _]) (ix := 56) (cf_X10_isDigit (b_wp_b h)) rfl wc_X10_isDigit wm_10_56 wi_X10_isDigit wn_10 ⟨by decide, by decide, by decide⟩ rfl ⟨by decide, by decide⟩ ⟨by decide, by decide⟩ (Nat.le_of_ble_eq_true rfl) dX10_step_131 (fun x23 h => ?_)
    refine v_if_eq (tgt := 166) dX10_step_134 (by decide) (fun c24 => ?_) (fun c24 => ?_)
    · replace h := b_wp_t c24 h
      exact h
    · replace h := b_wp_f c24 h
      refine v_aload_n (f := 0) 0 rfl dX10_step_137 ?_
      refine v_aload_n (f := 0) 0 rfl dX10_step_138 ?_
      refine v_getJ (kf := 4) (kz := 4) rfl kd_1 rfl ⟨by decide, by decide⟩ rfl wf_10_42 dX10_step_139 ?_
      refine v_ldc2 (n := 10) ⟨by decide, by decide⟩ wl_10_59 dX10_step_142 ?_
      refine v_lmul dX10_step_145 ?_
      refine v_aload_n (f := 0) 0 rfl dX10_step_146 ?_
      refine v_iload_n (f := 2) 2 rfl dX10_step_147 ?_
      refine v_cVIp (nA := 1) (As := [bI _]) (ix := 34) (cf_X10_byteAt (b_wp_b h)) rfl kd_1 rfl rfl wc_X10_byteAt wm_10_34 wi_X10_byteAt ws_X10_byteAt wn_10 ⟨by decide, by decide, by decide⟩ rfl ⟨by decide, by decide⟩ ⟨by decide, by decide⟩ (Nat.le_of_ble_eq_true rfl) dX10_step_148 (fun x25 h => ?_)
      refine v_i2lN dX10_step_151 ?_
      refine v_ladd dX10_step_152 ?_
      refine v_ldc2 (n := 48) ⟨by decide, by decide⟩ wl_10_61 dX10_step_153 ?_
      refine v_lsub dX10_step_156 ?_
      refine v_putJ (kf := 4) (kz := 4) rfl kd_1 rfl ⟨by decide, by decide⟩ rfl wf_10_42 rfl rfl dX10_step_157 ?_
      replace h := b_wp_l h
      obtain ⟨g27, h⟩ := b_wp_g h
      refine v_iincN (ls' := [(2, bI _), (0, bR _), (1, bI _)]) 2 rfl (by decide) g27 dX10_step_160 rfl ?_
      refine v_goto (tgt := 118) dX10_step_163 (by decide) ?_
      refine v_sub (ls2 := [(0, bR _), (1, bI _), (2, bI _)]) [1, 2, 0] rfl ?_
      exact h
theorem l_X10_step_118 {l : Launch} {E : bE} {Q : bM → Prop} {v1 : Int} {s : Int × bM} (h : b_wp (b_loop (fun t => F_X10_step_s118 v1 t.1 t.2) s) (X_X10_step_118 l E Q v1)) : A_X10_step_118 l E Q v1 s := b_loop_wp (fun t h => t_X10_step_s118 h) s h
noncomputable def F_X10_step_b179 (v1 : Int) (v2 : Int) (u1 : Int) (M : bM) : Option (bM) :=
  b_let (b_up M 1 2 u1) (fun M30 => F_X10_step_b226 v1 v2 M30)
theorem t_X10_step_b179 {l : Launch} {E : bE} {Q : bM → Prop} {v1 : Int} {v2 : Int} {u1 : Int} {M : bM} (h : b_wp (F_X10_step_b179 v1 v2 u1 M) (Q)) : V l E xX10_step (0, 0) 179 [(0, bR 1), (1, bI v1), (2, bI v2)] [bI u1, bR 1] M (b_pV Q) := by
  unfold F_X10_step_b179 at h
  refine v_putI (kf := 2) (kz := 2) rfl kd_1 rfl ⟨by decide, by decide⟩ rfl wf_10_53 rfl rfl dX10_step_179 ?_
  replace h := b_wp_l h
  refine v_goto (tgt := 226) dX10_step_182 (by decide) ?_
  exact t_X10_step_b226 h
noncomputable def F_X10_step_b166 (v1 : Int) (v2 : Int) (M : bM) : Option (bM) :=
  b_g (b_i32 (v2 - v1)) (if (v2 - v1) ≤ 4 then (F_X10_step_b179 v1 v2 2 M) else (F_X10_step_b179 v1 v2 4 M))
theorem t_X10_step_b166 {l : Launch} {E : bE} {Q : bM → Prop} {v1 : Int} {v2 : Int} {M : bM} (h : b_wp (F_X10_step_b166 v1 v2 M) (Q)) : V l E xX10_step (0, 0) 166 [(0, bR 1), (1, bI v1), (2, bI v2)] [] M (b_pV Q) := by
  unfold F_X10_step_b166 at h
  obtain ⟨g28, h⟩ := b_wp_g h
  refine v_aload_n (f := 0) 0 rfl dX10_step_166 ?_
  refine v_iload_n (f := 2) 2 rfl dX10_step_167 ?_
  refine v_iload_n (f := 1) 1 rfl dX10_step_168 ?_
  refine v_isubN g28 dX10_step_169 ?_
  refine v_iconst ⟨by decide, by decide⟩ dX10_step_170 ?_
  refine v_icmp_le (tgt := 178) dX10_step_171 (by decide) (fun c29 => ?_) (fun c29 => ?_)
  · replace h := b_wp_t c29 h
    refine v_iconst ⟨by decide, by decide⟩ dX10_step_178 ?_
    exact t_X10_step_b179 h
  · replace h := b_wp_f c29 h
    refine v_iconst ⟨by decide, by decide⟩ dX10_step_174 ?_
    refine v_goto (tgt := 179) dX10_step_175 (by decide) ?_
    exact t_X10_step_b179 h
abbrev A_X10_step_50 (l : Launch) (E : bE) (Q : bM → Prop) (v1 : Int) : (Int × bM) → Prop := (fun t : Int × bM => V l E xX10_step (0, 0) 50 [(0, bR 1), (1, bI v1), (2, bI (t.1))] [] t.2 (b_pV Q))
abbrev X_X10_step_50 (l : Launch) (E : bE) (Q : bM → Prop) (v1 : Int) : (Int × bM) → Prop := (fun t : Int × bM => V l E xX10_step (0, 0) 91 [(0, bR 1), (1, bI v1), (2, bI (t.1))] [] t.2 (b_pV Q))
noncomputable def F_X10_step_s50 (v1 : Int) (v2 : Int) (M : bM) : Option ((Int × bM) ⊕ (Int × bM)) :=
  if (M 1 1) ≤ v2 then (some (.inr (v2, M))) else (b_bind (F_X10_byteAt v2 M) (fun x32 => b_bind (F_X10_isLetter x32 M) (fun x33 => if x33 = 0 then (some (.inr (v2, M))) else (b_bind (F_X10_byteAt v2 M) (fun x35 => b_bind (F_X10_withLetter (M 1 4) x35 M) (fun x36 => b_let (b_up M 1 4 x36) (fun M37 => b_g (b_i32 (v2 + 1)) (some (.inl ((v2 + 1), M37))))))))))
theorem t_X10_step_s50 {l : Launch} {E : bE} {Q : bM → Prop} {v1 : Int} {v2 : Int} {M : bM} (h : b_wp (F_X10_step_s50 v1 v2 M) (Sum.elim (A_X10_step_50 l E Q v1) (X_X10_step_50 l E Q v1))) : V l E xX10_step (0, 0) 50 [(0, bR 1), (1, bI v1), (2, bI v2)] [] M (b_pV Q) := by
  unfold F_X10_step_s50 at h
  refine v_iload_n (f := 2) 2 rfl dX10_step_50 ?_
  refine v_aload_n (f := 0) 0 rfl dX10_step_51 ?_
  refine v_getI (kf := 1) (kz := 1) rfl kd_1 rfl ⟨by decide, by decide⟩ rfl wf_10_19 dX10_step_52 ?_
  refine v_icmp_ge (tgt := 91) dX10_step_55 (by decide) (fun c31 => ?_) (fun c31 => ?_)
  · replace h := b_wp_t c31 h
    exact h
  · replace h := b_wp_f c31 h
    refine v_aload_n (f := 0) 0 rfl dX10_step_58 ?_
    refine v_iload_n (f := 2) 2 rfl dX10_step_59 ?_
    refine v_cVIp (nA := 1) (As := [bI _]) (ix := 34) (cf_X10_byteAt (b_wp_b h)) rfl kd_1 rfl rfl wc_X10_byteAt wm_10_34 wi_X10_byteAt ws_X10_byteAt wn_10 ⟨by decide, by decide, by decide⟩ rfl ⟨by decide, by decide⟩ ⟨by decide, by decide⟩ (Nat.le_of_ble_eq_true rfl) dX10_step_60 (fun x32 h => ?_)
    refine v_cSIp (nA := 1) (As := [bI _]) (ix := 46) (cf_X10_isLetter (b_wp_b h)) rfl wc_X10_isLetter wm_10_46 wi_X10_isLetter wn_10 ⟨by decide, by decide, by decide⟩ rfl ⟨by decide, by decide⟩ ⟨by decide, by decide⟩ (Nat.le_of_ble_eq_true rfl) dX10_step_63 (fun x33 h => ?_)
    refine v_if_eq (tgt := 91) dX10_step_66 (by decide) (fun c34 => ?_) (fun c34 => ?_)
    · replace h := b_wp_t c34 h
      exact h
    · replace h := b_wp_f c34 h
      refine v_aload_n (f := 0) 0 rfl dX10_step_69 ?_
      refine v_aload_n (f := 0) 0 rfl dX10_step_70 ?_
      refine v_getJ (kf := 4) (kz := 4) rfl kd_1 rfl ⟨by decide, by decide⟩ rfl wf_10_42 dX10_step_71 ?_
      refine v_aload_n (f := 0) 0 rfl dX10_step_74 ?_
      refine v_iload_n (f := 2) 2 rfl dX10_step_75 ?_
      refine v_cVIp (nA := 1) (As := [bI _]) (ix := 34) (cf_X10_byteAt (b_wp_b h)) rfl kd_1 rfl rfl wc_X10_byteAt wm_10_34 wi_X10_byteAt ws_X10_byteAt wn_10 ⟨by decide, by decide, by decide⟩ rfl ⟨by decide, by decide⟩ ⟨by decide, by decide⟩ (Nat.le_of_ble_eq_true rfl) dX10_step_76 (fun x35 h => ?_)
      refine v_cSJp (nA := 2) (As := [bJ _, bI _]) (ix := 49) (cf_X10_withLetter (b_wp_b h)) rfl wc_X10_withLetter wm_10_49 wi_X10_withLetter wn_10 ⟨by decide, by decide, by decide⟩ rfl ⟨by decide, by decide⟩ ⟨by decide, by decide⟩ (Nat.le_of_ble_eq_true rfl) dX10_step_79 (fun x36 h => ?_)
      refine v_putJ (kf := 4) (kz := 4) rfl kd_1 rfl ⟨by decide, by decide⟩ rfl wf_10_42 rfl rfl dX10_step_82 ?_
      replace h := b_wp_l h
      obtain ⟨g38, h⟩ := b_wp_g h
      refine v_iincN (ls' := [(2, bI _), (0, bR _), (1, bI _)]) 2 rfl (by decide) g38 dX10_step_85 rfl ?_
      refine v_goto (tgt := 50) dX10_step_88 (by decide) ?_
      refine v_sub (ls2 := [(0, bR _), (1, bI _), (2, bI _)]) [1, 2, 0] rfl ?_
      exact h
theorem l_X10_step_50 {l : Launch} {E : bE} {Q : bM → Prop} {v1 : Int} {s : Int × bM} (h : b_wp (b_loop (fun t => F_X10_step_s50 v1 t.1 t.2) s) (X_X10_step_50 l E Q v1)) : A_X10_step_50 l E Q v1 s := b_loop_wp (fun t h => t_X10_step_s50 h) s h
noncomputable def F_X10_step_b105 (v1 : Int) (v2 : Int) (u1 : Int) (M : bM) : Option (bM) :=
  b_let (b_up M 1 2 u1) (fun M41 => F_X10_step_b226 v1 v2 M41)
theorem t_X10_step_b105 {l : Launch} {E : bE} {Q : bM → Prop} {v1 : Int} {v2 : Int} {u1 : Int} {M : bM} (h : b_wp (F_X10_step_b105 v1 v2 u1 M) (Q)) : V l E xX10_step (0, 0) 105 [(0, bR 1), (1, bI v1), (2, bI v2)] [bI u1, bR 1] M (b_pV Q) := by
  unfold F_X10_step_b105 at h
  refine v_putI (kf := 2) (kz := 2) rfl kd_1 rfl ⟨by decide, by decide⟩ rfl wf_10_53 rfl rfl dX10_step_105 ?_
  replace h := b_wp_l h
  refine v_goto (tgt := 226) dX10_step_108 (by decide) ?_
  exact t_X10_step_b226 h
noncomputable def F_X10_step_b91 (v1 : Int) (v2 : Int) (M : bM) : Option (bM) :=
  b_g (b_i32 (v2 - v1)) (if (v2 - v1) ≤ 12 then (F_X10_step_b105 v1 v2 1 M) else (F_X10_step_b105 v1 v2 4 M))
theorem t_X10_step_b91 {l : Launch} {E : bE} {Q : bM → Prop} {v1 : Int} {v2 : Int} {M : bM} (h : b_wp (F_X10_step_b91 v1 v2 M) (Q)) : V l E xX10_step (0, 0) 91 [(0, bR 1), (1, bI v1), (2, bI v2)] [] M (b_pV Q) := by
  unfold F_X10_step_b91 at h
  obtain ⟨g39, h⟩ := b_wp_g h
  refine v_aload_n (f := 0) 0 rfl dX10_step_91 ?_
  refine v_iload_n (f := 2) 2 rfl dX10_step_92 ?_
  refine v_iload_n (f := 1) 1 rfl dX10_step_93 ?_
  refine v_isubN g39 dX10_step_94 ?_
  refine v_bipush ⟨by decide, by decide⟩ (by decide) dX10_step_95 ?_
  refine v_icmp_le (tgt := 104) dX10_step_97 (by decide) (fun c40 => ?_) (fun c40 => ?_)
  · replace h := b_wp_t c40 h
    refine v_iconst ⟨by decide, by decide⟩ dX10_step_104 ?_
    exact t_X10_step_b105 h
  · replace h := b_wp_f c40 h
    refine v_iconst ⟨by decide, by decide⟩ dX10_step_100 ?_
    refine v_goto (tgt := 105) dX10_step_101 (by decide) ?_
    exact t_X10_step_b105 h
noncomputable def F_X10_step_b30 (v1 : Int) (M : bM) : Option (bM) :=
  b_bind (F_X10_byteAt v1 M) (fun x6 => b_let (b_up M 1 4 0) (fun M7 => b_bind (F_X10_isLetter x6 M7) (fun x8 => if x8 = 0 then (b_bind (F_X10_isDigit x6 M7) (fun x10 => if x10 = 0 then (if (M7 1 1) ≤ v1 then (b_let (b_up M7 1 2 0) (fun M13 => F_X10_step_b226 v1 v1 M13)) else (b_bind (F_X10_isSignByte x6 M7) (fun x16 => if x16 = 0 then (F_X10_step_b206 v1 v1 x6 4 M7) else (F_X10_step_b206 v1 v1 x6 3 M7)))) else (b_bind (b_loop (fun t => F_X10_step_s118 v1 t.1 t.2) (v1, M7)) (fun t => F_X10_step_b166 v1 (t.1) (t.2))))) else (b_bind (b_loop (fun t => F_X10_step_s50 v1 t.1 t.2) (v1, M7)) (fun t => F_X10_step_b91 v1 (t.1) (t.2))))))
theorem t_X10_step_b30 {l : Launch} {E : bE} {Q : bM → Prop} {v1 : Int} {M : bM} (h : b_wp (F_X10_step_b30 v1 M) (Q)) : V l E xX10_step (0, 0) 30 [(0, bR 1), (1, bI v1)] [] M (b_pV Q) := by
  unfold F_X10_step_b30 at h
  refine v_iload_n (f := 1) 1 rfl dX10_step_30 ?_
  refine v_istore_n (g := 2) (i := 2) (ls' := [(2, bI _), (0, bR _), (1, bI _)]) rfl (by decide) dX10_step_31 rfl ?_
  refine v_aload_n (f := 0) 1 rfl dX10_step_32 ?_
  refine v_iload_n (f := 1) 2 rfl dX10_step_33 ?_
  refine v_cVIp (nA := 1) (As := [bI _]) (ix := 34) (cf_X10_byteAt (b_wp_b h)) rfl kd_1 rfl rfl wc_X10_byteAt wm_10_34 wi_X10_byteAt ws_X10_byteAt wn_10 ⟨by decide, by decide, by decide⟩ rfl ⟨by decide, by decide⟩ ⟨by decide, by decide⟩ (Nat.le_of_ble_eq_true rfl) dX10_step_34 (fun x6 h => ?_)
  refine v_istore_n (g := 3) (i := 3) (ls' := [(3, bI _), (2, bI _), (0, bR _), (1, bI _)]) rfl (by decide) dX10_step_37 rfl ?_
  refine v_aload_n (f := 0) 2 rfl dX10_step_38 ?_
  refine v_lconst0 dX10_step_39 ?_
  refine v_putJ (kf := 4) (kz := 4) rfl kd_1 rfl ⟨by decide, by decide⟩ rfl wf_10_42 rfl rfl dX10_step_40 ?_
  replace h := b_wp_l h
  refine v_iload_n (f := 3) 0 rfl dX10_step_43 ?_
  refine v_cSIp (nA := 1) (As := [bI _]) (ix := 46) (cf_X10_isLetter (b_wp_b h)) rfl wc_X10_isLetter wm_10_46 wi_X10_isLetter wn_10 ⟨by decide, by decide, by decide⟩ rfl ⟨by decide, by decide⟩ ⟨by decide, by decide⟩ (Nat.le_of_ble_eq_true rfl) dX10_step_44 (fun x8 h => ?_)
  refine v_if_eq (tgt := 111) dX10_step_47 (by decide) (fun c9 => ?_) (fun c9 => ?_)
  · replace h := b_wp_t c9 h
    refine v_iload_n (f := 3) 0 rfl dX10_step_111 ?_
    refine v_cSIp (nA := 1) (As := [bI _]) (ix := 56) (cf_X10_isDigit (b_wp_b h)) rfl wc_X10_isDigit wm_10_56 wi_X10_isDigit wn_10 ⟨by decide, by decide, by decide⟩ rfl ⟨by decide, by decide⟩ ⟨by decide, by decide⟩ (Nat.le_of_ble_eq_true rfl) dX10_step_112 (fun x10 h => ?_)
    refine v_if_eq (tgt := 185) dX10_step_115 (by decide) (fun c11 => ?_) (fun c11 => ?_)
    · replace h := b_wp_t c11 h
      refine v_iload_n (f := 1) 3 rfl dX10_step_185 ?_
      refine v_aload_n (f := 0) 2 rfl dX10_step_186 ?_
      refine v_getI (kf := 1) (kz := 1) rfl kd_1 rfl ⟨by decide, by decide⟩ rfl wf_10_19 dX10_step_187 ?_
      refine v_icmp_ge (tgt := 221) dX10_step_190 (by decide) (fun c12 => ?_) (fun c12 => ?_)
      · replace h := b_wp_t c12 h
        refine v_aload_n (f := 0) 2 rfl dX10_step_221 ?_
        refine v_iconst ⟨by decide, by decide⟩ dX10_step_222 ?_
        refine v_putI (kf := 2) (kz := 2) rfl kd_1 rfl ⟨by decide, by decide⟩ rfl wf_10_53 rfl rfl dX10_step_223 ?_
        replace h := b_wp_l h
        refine v_sub (ls2 := [(0, bR _), (1, bI _), (2, bI _)]) [2, 3, 1] rfl ?_
        exact t_X10_step_b226 h
      · replace h := b_wp_f c12 h
        refine v_aload_n (f := 0) 2 rfl dX10_step_193 ?_
        refine v_iload_n (f := 3) 0 rfl dX10_step_194 ?_
        refine v_cSIp (nA := 1) (As := [bI _]) (ix := 63) (cf_X10_isSignByte (b_wp_b h)) rfl wc_X10_isSignByte wm_10_63 wi_X10_isSignByte wn_10 ⟨by decide, by decide, by decide⟩ rfl ⟨by decide, by decide⟩ ⟨by decide, by decide⟩ (Nat.le_of_ble_eq_true rfl) dX10_step_195 (fun x16 h => ?_)
        refine v_if_eq (tgt := 205) dX10_step_198 (by decide) (fun c17 => ?_) (fun c17 => ?_)
        · replace h := b_wp_t c17 h
          refine v_iconst ⟨by decide, by decide⟩ dX10_step_205 ?_
          refine v_sub (ls2 := [(0, bR _), (1, bI _), (2, bI _), (3, bI _)]) [2, 3, 1, 0] rfl ?_
          exact t_X10_step_b206 h
        · replace h := b_wp_f c17 h
          refine v_iconst ⟨by decide, by decide⟩ dX10_step_201 ?_
          refine v_goto (tgt := 206) dX10_step_202 (by decide) ?_
          refine v_sub (ls2 := [(0, bR _), (1, bI _), (2, bI _), (3, bI _)]) [2, 3, 1, 0] rfl ?_
          exact t_X10_step_b206 h
    · replace h := b_wp_f c11 h
      refine v_sub (ls2 := [(0, bR _), (1, bI _), (2, bI _)]) [2, 3, 1] rfl ?_
      refine l_X10_step_118 (b_wp_m (fun t h => ?_) (b_wp_b h))
      show V l E xX10_step (0, 0) 166 [(0, bR 1), (1, bI _), (2, bI _)] [] _ (b_pV Q)
      exact t_X10_step_b166 h
  · replace h := b_wp_f c9 h
    refine v_sub (ls2 := [(0, bR _), (1, bI _), (2, bI _)]) [2, 3, 1] rfl ?_
    refine l_X10_step_50 (b_wp_m (fun t h => ?_) (b_wp_b h))
    show V l E xX10_step (0, 0) 91 [(0, bR 1), (1, bI _), (2, bI _)] [] _ (b_pV Q)
    exact t_X10_step_b91 h
noncomputable def F_X10_step (M : bM) : Option (bM) :=
  b_bind (b_loop (fun t => F_X10_step_s5 t M) ((M 1 7))) (fun t => F_X10_step_b30 t M)
theorem t_X10_step {l : Launch} {E : bE} {Q : bM → Prop} {M : bM} (h : b_wp (F_X10_step M) (Q)) : V l E xX10_step (0, 0) 0 [(0, bR 1)] [] M (b_pV Q) := by
  unfold F_X10_step at h
  refine v_aload_n (f := 0) 0 rfl dX10_step_0 ?_
  refine v_getI (kf := 7) (kz := 7) rfl kd_1 rfl ⟨by decide, by decide⟩ rfl wf_10_28 dX10_step_1 ?_
  refine v_istore_n (g := 1) (i := 1) (ls' := [(1, bI _), (0, bR _)]) rfl (by decide) dX10_step_4 rfl ?_
  refine v_sub (ls2 := [(0, bR _), (1, bI _)]) [1, 0] rfl ?_
  refine l_X10_step_5 (b_wp_m (fun t h => ?_) (b_wp_b h))
  show V l E xX10_step (0, 0) 30 [(0, bR 1), (1, bI _)] [] _ (b_pV Q)
  exact t_X10_step_b30 h
theorem cf_X10_step {l : Launch} {E : bE} {M : bM} {Q : bM → Prop} (h : b_wp (F_X10_step M) Q) : b_C l E xX10_step yX10_step [bR 1] M (b_pV Q) := b_met (by decide) ⟨rfl, rfl⟩ (Nat.le_of_ble_eq_true rfl) (fun _ _ => t_X10_step h)
abbrev xX10_rewind : bX := ("BurntHall$Tape", prog_12_method_6_code, 1, (Option.none : Option Jvm.ClassFile.FieldType), b_rm 3 0 0, 0, "rewind")
abbrev yX10_rewind : MethodName := ⟨"BurntHall$Tape", "rewind", "()V"⟩
theorem dX10_rewind_0 : decode prog_12_method_6_code 0 = .ok (.aload_n 0, 1) := by decide +kernel
theorem dX10_rewind_1 : decode prog_12_method_6_code 1 = .ok (.iconst 0, 1) := by decide +kernel
theorem dX10_rewind_2 : decode prog_12_method_6_code 2 = .ok (.putfield 28, 3) := by decide +kernel
theorem dX10_rewind_5 : decode prog_12_method_6_code 5 = .ok (.aload_n 0, 1) := by decide +kernel
theorem dX10_rewind_6 : decode prog_12_method_6_code 6 = .ok (.invokevirtual 31, 3) := by decide +kernel
theorem dX10_rewind_9 : decode prog_12_method_6_code 9 = .ok (.return_, 1) := by decide +kernel
noncomputable def F_X10_rewind (M : bM) : Option (bM) :=
  b_let (b_up M 1 7 0) (fun M1 => b_bind (F_X10_step M1) (fun M2 => some M2))
theorem t_X10_rewind {l : Launch} {E : bE} {Q : bM → Prop} {M : bM} (h : b_wp (F_X10_rewind M) (Q)) : V l E xX10_rewind (0, 0) 0 [(0, bR 1)] [] M (b_pV Q) := by
  unfold F_X10_rewind at h
  refine v_aload_n (f := 0) 0 rfl dX10_rewind_0 ?_
  refine v_iconst ⟨by decide, by decide⟩ dX10_rewind_1 ?_
  refine v_putI (kf := 7) (kz := 7) rfl kd_1 rfl ⟨by decide, by decide⟩ rfl wf_10_28 rfl rfl dX10_rewind_2 ?_
  replace h := b_wp_l h
  refine v_aload_n (f := 0) 0 rfl dX10_rewind_5 ?_
  refine v_cVV (nA := 0) (As := []) (ix := 31) (cf_X10_step (b_wp_b h)) rfl kd_1 rfl rfl wc_X10_step wm_10_31 wi_X10_step ws_X10_step wn_10 ⟨by decide, by decide, by decide⟩ rfl ⟨by decide, by decide⟩ ⟨by decide, by decide⟩ (Nat.le_of_ble_eq_true rfl) dX10_rewind_6 (fun M2 h => ?_)
  refine v_return rfl dX10_rewind_9 ⟨by decide, by decide⟩ ?_
  exact ⟨rfl, h⟩
theorem cf_X10_rewind {l : Launch} {E : bE} {M : bM} {Q : bM → Prop} (h : b_wp (F_X10_rewind M) Q) : b_C l E xX10_rewind yX10_rewind [bR 1] M (b_pV Q) := b_met (by decide) ⟨rfl, rfl⟩ (Nat.le_of_ble_eq_true rfl) (fun _ _ => t_X10_rewind h)
abbrev xX10_begin : bX := ("BurntHall$Tape", prog_12_method_5_code, 1, (Option.none : Option Jvm.ClassFile.FieldType), b_rm 4 0 0, 0, "begin")
abbrev yX10_begin : MethodName := ⟨"BurntHall$Tape", "begin", "()V"⟩
theorem dX10_begin_0 : decode prog_12_method_5_code 0 = .ok (.aload_n 0, 1) := by decide +kernel
theorem dX10_begin_1 : decode prog_12_method_5_code 1 = .ok (.iconst 0, 1) := by decide +kernel
theorem dX10_begin_2 : decode prog_12_method_5_code 2 = .ok (.putfield 22, 3) := by decide +kernel
theorem dX10_begin_5 : decode prog_12_method_5_code 5 = .ok (.aload_n 0, 1) := by decide +kernel
theorem dX10_begin_6 : decode prog_12_method_5_code 6 = .ok (.iconst (-1), 1) := by decide +kernel
theorem dX10_begin_7 : decode prog_12_method_5_code 7 = .ok (.putfield 15, 3) := by decide +kernel
theorem dX10_begin_10 : decode prog_12_method_5_code 10 = .ok (.aload_n 0, 1) := by decide +kernel
theorem dX10_begin_11 : decode prog_12_method_5_code 11 = .ok (.invokevirtual 25, 3) := by decide +kernel
theorem dX10_begin_14 : decode prog_12_method_5_code 14 = .ok (.return_, 1) := by decide +kernel
noncomputable def F_X10_begin (M : bM) : Option (bM) :=
  b_let (b_up M 1 5 0) (fun M1 => b_let (b_up M1 1 6 (-1)) (fun M2 => b_bind (F_X10_rewind M2) (fun M3 => some M3)))
theorem t_X10_begin {l : Launch} {E : bE} {Q : bM → Prop} {M : bM} (h : b_wp (F_X10_begin M) (Q)) : V l E xX10_begin (0, 0) 0 [(0, bR 1)] [] M (b_pV Q) := by
  unfold F_X10_begin at h
  refine v_aload_n (f := 0) 0 rfl dX10_begin_0 ?_
  refine v_iconst ⟨by decide, by decide⟩ dX10_begin_1 ?_
  refine v_putI (kf := 5) (kz := 5) rfl kd_1 rfl ⟨by decide, by decide⟩ rfl wf_10_22 rfl rfl dX10_begin_2 ?_
  replace h := b_wp_l h
  refine v_aload_n (f := 0) 0 rfl dX10_begin_5 ?_
  refine v_iconst ⟨by decide, by decide⟩ dX10_begin_6 ?_
  refine v_putI (kf := 6) (kz := 6) rfl kd_1 rfl ⟨by decide, by decide⟩ rfl wf_10_15 rfl rfl dX10_begin_7 ?_
  replace h := b_wp_l h
  refine v_aload_n (f := 0) 0 rfl dX10_begin_10 ?_
  refine v_cVV (nA := 0) (As := []) (ix := 25) (cf_X10_rewind (b_wp_b h)) rfl kd_1 rfl rfl wc_X10_rewind wm_10_25 wi_X10_rewind ws_X10_rewind wn_10 ⟨by decide, by decide, by decide⟩ rfl ⟨by decide, by decide⟩ ⟨by decide, by decide⟩ (Nat.le_of_ble_eq_true rfl) dX10_begin_11 (fun M3 h => ?_)
  refine v_return rfl dX10_begin_14 ⟨by decide, by decide⟩ ?_
  exact ⟨rfl, h⟩
theorem cf_X10_begin {l : Launch} {E : bE} {M : bM} {Q : bM → Prop} (h : b_wp (F_X10_begin M) Q) : b_C l E xX10_begin yX10_begin [bR 1] M (b_pV Q) := b_met (by decide) ⟨rfl, rfl⟩ (Nat.le_of_ble_eq_true rfl) (fun _ _ => t_X10_begin h)
abbrev xX10_isWord : bX := ("BurntHall$Tape", prog_12_method_9_code, 3, (Option.some Jvm.ClassFile.FieldType.boolean), b_rm 1 0 0, 0, "isWord")
abbrev yX10_isWord : MethodName := ⟨"BurntHall$Tape", "isWord", "(J)Z"⟩
theorem dX10_isWord_0 : decode prog_12_method_9_code 0 = .ok (.aload_n 0, 1) := by decide +kernel
theorem dX10_isWord_1 : decode prog_12_method_9_code 1 = .ok (.getfield 53, 3) := by decide +kernel
theorem dX10_isWord_4 : decode prog_12_method_9_code 4 = .ok (.iconst 1, 1) := by decide +kernel
theorem dX10_isWord_5 : decode prog_12_method_9_code 5 = .ok (.if_icmp .ne 16, 3) := by decide +kernel
theorem dX10_isWord_8 : decode prog_12_method_9_code 8 = .ok (.aload_n 0, 1) := by decide +kernel
theorem dX10_isWord_9 : decode prog_12_method_9_code 9 = .ok (.getfield 42, 3) := by decide +kernel
theorem dX10_isWord_12 : decode prog_12_method_9_code 12 = .ok (.lload_n 1, 1) := by decide +kernel
theorem dX10_isWord_13 : decode prog_12_method_9_code 13 = .ok (.lcmp, 1) := by decide +kernel
theorem dX10_isWord_14 : decode prog_12_method_9_code 14 = .ok (.ifCond .ne 7, 3) := by decide +kernel
theorem dX10_isWord_17 : decode prog_12_method_9_code 17 = .ok (.iconst 1, 1) := by decide +kernel
theorem dX10_isWord_18 : decode prog_12_method_9_code 18 = .ok (.goto 4, 3) := by decide +kernel
theorem dX10_isWord_21 : decode prog_12_method_9_code 21 = .ok (.iconst 0, 1) := by decide +kernel
theorem dX10_isWord_22 : decode prog_12_method_9_code 22 = .ok (.ireturn, 1) := by decide +kernel
noncomputable def F_X10_isWord (v1 : Int) (M : bM) : Option (Int) :=
  if (M 1 2) = 1 then (if (j_cmp (M 1 4) v1) = 0 then (some 1) else (some 0)) else (some 0)
theorem t_X10_isWord {l : Launch} {E : bE} {Q : Int → Prop} {v1 : Int} {M : bM} (h : b_wp (F_X10_isWord v1 M) (Q)) : V l E xX10_isWord (0, 0) 0 [(0, bR 1), (1, bJ v1)] [] M (b_pIp M Q) := by
  unfold F_X10_isWord at h
  refine v_aload_n (f := 0) 0 rfl dX10_isWord_0 ?_
  refine v_getI (kf := 2) (kz := 2) rfl kd_1 rfl ⟨by decide, by decide⟩ rfl wf_10_53 dX10_isWord_1 ?_
  refine v_iconst ⟨by decide, by decide⟩ dX10_isWord_4 ?_
  refine v_icmp_ne (tgt := 21) dX10_isWord_5 (by decide) (fun c1 => ?_) (fun c1 => ?_)
  · replace h := b_wp_f c1 h
    refine v_iconst ⟨by decide, by decide⟩ dX10_isWord_21 ?_
    refine v_zreturn rfl (Or.inl rfl) dX10_isWord_22 ⟨by decide, by decide⟩ ?_
    exact ⟨_, rfl, rfl, h⟩
  · replace h := b_wp_t c1 h
    refine v_aload_n (f := 0) 0 rfl dX10_isWord_8 ?_
    refine v_getJ (kf := 4) (kz := 4) rfl kd_1 rfl ⟨by decide, by decide⟩ rfl wf_10_42 dX10_isWord_9 ?_
    refine v_lload_n (f := 1) 1 rfl dX10_isWord_12 ?_
    refine v_lcmpN dX10_isWord_13 ?_
    refine v_if_ne (tgt := 21) dX10_isWord_14 (by decide) (fun c2 => ?_) (fun c2 => ?_)
    · replace h := b_wp_f c2 h
      refine v_iconst ⟨by decide, by decide⟩ dX10_isWord_21 ?_
      refine v_zreturn rfl (Or.inl rfl) dX10_isWord_22 ⟨by decide, by decide⟩ ?_
      exact ⟨_, rfl, rfl, h⟩
    · replace h := b_wp_t c2 h
      refine v_iconst ⟨by decide, by decide⟩ dX10_isWord_17 ?_
      refine v_goto (tgt := 22) dX10_isWord_18 (by decide) ?_
      refine v_zreturn rfl (Or.inr rfl) dX10_isWord_22 ⟨by decide, by decide⟩ ?_
      exact ⟨_, rfl, rfl, h⟩
theorem cf_X10_isWord {l : Launch} {E : bE} {M : bM} {v1 : Int} {Q : Int → Prop} (h : b_wp (F_X10_isWord v1 M) Q) : b_C l E xX10_isWord yX10_isWord [bR 1, bJ v1] M (b_pIp M Q) := b_met (by decide) ⟨rfl, rfl⟩ (Nat.le_of_ble_eq_true rfl) (fun _ _ => t_X10_isWord h)
abbrev xX10_number : bX := ("BurntHall$Tape", prog_12_method_10_code, 1, (Option.some Jvm.ClassFile.FieldType.int), b_rm 1 0 0, 0, "number")
abbrev yX10_number : MethodName := ⟨"BurntHall$Tape", "number", "()I"⟩
theorem dX10_number_0 : decode prog_12_method_10_code 0 = .ok (.aload_n 0, 1) := by decide +kernel
theorem dX10_number_1 : decode prog_12_method_10_code 1 = .ok (.getfield 42, 3) := by decide +kernel
theorem dX10_number_4 : decode prog_12_method_10_code 4 = .ok (.l2i, 1) := by decide +kernel
theorem dX10_number_5 : decode prog_12_method_10_code 5 = .ok (.ireturn, 1) := by decide +kernel
noncomputable def F_X10_number (M : bM) : Option (Int) :=
  b_g (b_i32 (M 1 4)) (some (M 1 4))
theorem t_X10_number {l : Launch} {E : bE} {Q : Int → Prop} {M : bM} (h : b_wp (F_X10_number M) (Q)) : V l E xX10_number (0, 0) 0 [(0, bR 1)] [] M (b_pIp M Q) := by
  unfold F_X10_number at h
  obtain ⟨g1, h⟩ := b_wp_g h
  refine v_aload_n (f := 0) 0 rfl dX10_number_0 ?_
  refine v_getJ (kf := 4) (kz := 4) rfl kd_1 rfl ⟨by decide, by decide⟩ rfl wf_10_42 dX10_number_1 ?_
  refine v_l2iN g1 dX10_number_4 ?_
  refine v_ireturn rfl dX10_number_5 ⟨by decide, by decide⟩ ?_
  exact ⟨_, rfl, rfl, h⟩
theorem cf_X10_number {l : Launch} {E : bE} {M : bM} {Q : Int → Prop} (h : b_wp (F_X10_number M) Q) : b_C l E xX10_number yX10_number [bR 1] M (b_pIp M Q) := b_met (by decide) ⟨rfl, rfl⟩ (Nat.le_of_ble_eq_true rfl) (fun _ _ => t_X10_number h)
abbrev xX10_wrong : bX := ("BurntHall$Tape", prog_12_method_11_code, 2, (Option.some Jvm.ClassFile.FieldType.boolean), b_rm 1 0 0, 0, "wrong")
abbrev yX10_wrong : MethodName := ⟨"BurntHall$Tape", "wrong", "(I)Z"⟩
theorem dX10_wrong_0 : decode prog_12_method_11_code 0 = .ok (.aload_n 0, 1) := by decide +kernel
theorem dX10_wrong_1 : decode prog_12_method_11_code 1 = .ok (.iload_n 1, 1) := by decide +kernel
theorem dX10_wrong_2 : decode prog_12_method_11_code 2 = .ok (.putfield 22, 3) := by decide +kernel
theorem dX10_wrong_5 : decode prog_12_method_11_code 5 = .ok (.aload_n 0, 1) := by decide +kernel
theorem dX10_wrong_6 : decode prog_12_method_11_code 6 = .ok (.aload_n 0, 1) := by decide +kernel
theorem dX10_wrong_7 : decode prog_12_method_11_code 7 = .ok (.getfield 66, 3) := by decide +kernel
theorem dX10_wrong_10 : decode prog_12_method_11_code 10 = .ok (.putfield 15, 3) := by decide +kernel
theorem dX10_wrong_13 : decode prog_12_method_11_code 13 = .ok (.iconst 0, 1) := by decide +kernel
theorem dX10_wrong_14 : decode prog_12_method_11_code 14 = .ok (.ireturn, 1) := by decide +kernel
noncomputable def F_X10_wrong (v1 : Int) (M : bM) : Option (Int × bM) :=
  b_let (b_up M 1 5 v1) (fun M1 => b_let (b_up M1 1 6 (M1 1 3)) (fun M2 => some (0, M2)))
theorem t_X10_wrong {l : Launch} {E : bE} {Q : (Int × bM) → Prop} {v1 : Int} {M : bM} (h : b_wp (F_X10_wrong v1 M) (Q)) : V l E xX10_wrong (0, 0) 0 [(0, bR 1), (1, bI v1)] [] M (b_pI Q) := by
  unfold F_X10_wrong at h
  refine v_aload_n (f := 0) 0 rfl dX10_wrong_0 ?_
  refine v_iload_n (f := 1) 1 rfl dX10_wrong_1 ?_
  refine v_putI (kf := 5) (kz := 5) rfl kd_1 rfl ⟨by decide, by decide⟩ rfl wf_10_22 rfl rfl dX10_wrong_2 ?_
  replace h := b_wp_l h
  refine v_aload_n (f := 0) 0 rfl dX10_wrong_5 ?_
  refine v_aload_n (f := 0) 0 rfl dX10_wrong_6 ?_
  refine v_getI (kf := 3) (kz := 3) rfl kd_1 rfl ⟨by decide, by decide⟩ rfl wf_10_66 dX10_wrong_7 ?_
  refine v_putI (kf := 6) (kz := 6) rfl kd_1 rfl ⟨by decide, by decide⟩ rfl wf_10_15 rfl rfl dX10_wrong_10 ?_
  replace h := b_wp_l h
  refine v_iconst ⟨by decide, by decide⟩ dX10_wrong_13 ?_
  refine v_zreturn rfl (Or.inl rfl) dX10_wrong_14 ⟨by decide, by decide⟩ ?_
  exact ⟨_, rfl, h⟩
theorem cf_X10_wrong {l : Launch} {E : bE} {M : bM} {v1 : Int} {Q : (Int × bM) → Prop} (h : b_wp (F_X10_wrong v1 M) Q) : b_C l E xX10_wrong yX10_wrong [bR 1, bI v1] M (b_pI Q) := b_met (by decide) ⟨rfl, rfl⟩ (Nat.le_of_ble_eq_true rfl) (fun _ _ => t_X10_wrong h)
abbrev xX10_isSign : bX := ("BurntHall$Tape", prog_12_method_8_code, 2, (Option.some Jvm.ClassFile.FieldType.boolean), b_rm 1 0 0, 0, "isSign")
abbrev yX10_isSign : MethodName := ⟨"BurntHall$Tape", "isSign", "(C)Z"⟩
theorem dX10_isSign_0 : decode prog_12_method_8_code 0 = .ok (.aload_n 0, 1) := by decide +kernel
theorem dX10_isSign_1 : decode prog_12_method_8_code 1 = .ok (.getfield 53, 3) := by decide +kernel
theorem dX10_isSign_4 : decode prog_12_method_8_code 4 = .ok (.iconst 3, 1) := by decide +kernel
theorem dX10_isSign_5 : decode prog_12_method_8_code 5 = .ok (.if_icmp .ne 17, 3) := by decide +kernel
theorem dX10_isSign_8 : decode prog_12_method_8_code 8 = .ok (.aload_n 0, 1) := by decide +kernel
theorem dX10_isSign_9 : decode prog_12_method_8_code 9 = .ok (.getfield 42, 3) := by decide +kernel
theorem dX10_isSign_12 : decode prog_12_method_8_code 12 = .ok (.iload_n 1, 1) := by decide +kernel
theorem dX10_isSign_13 : decode prog_12_method_8_code 13 = .ok (.i2l, 1) := by decide +kernel
theorem dX10_isSign_14 : decode prog_12_method_8_code 14 = .ok (.lcmp, 1) := by decide +kernel
theorem dX10_isSign_15 : decode prog_12_method_8_code 15 = .ok (.ifCond .ne 7, 3) := by decide +kernel
theorem dX10_isSign_18 : decode prog_12_method_8_code 18 = .ok (.iconst 1, 1) := by decide +kernel
theorem dX10_isSign_19 : decode prog_12_method_8_code 19 = .ok (.goto 4, 3) := by decide +kernel
theorem dX10_isSign_22 : decode prog_12_method_8_code 22 = .ok (.iconst 0, 1) := by decide +kernel
theorem dX10_isSign_23 : decode prog_12_method_8_code 23 = .ok (.ireturn, 1) := by decide +kernel
noncomputable def F_X10_isSign (v1 : Int) (M : bM) : Option (Int) :=
  if (M 1 2) = 3 then (if (j_cmp (M 1 4) v1) = 0 then (some 1) else (some 0)) else (some 0)
theorem t_X10_isSign {l : Launch} {E : bE} {Q : Int → Prop} {v1 : Int} {M : bM} (h : b_wp (F_X10_isSign v1 M) (Q)) : V l E xX10_isSign (0, 0) 0 [(0, bR 1), (1, bI v1)] [] M (b_pIp M Q) := by
  unfold F_X10_isSign at h
  refine v_aload_n (f := 0) 0 rfl dX10_isSign_0 ?_
  refine v_getI (kf := 2) (kz := 2) rfl kd_1 rfl ⟨by decide, by decide⟩ rfl wf_10_53 dX10_isSign_1 ?_
  refine v_iconst ⟨by decide, by decide⟩ dX10_isSign_4 ?_
  refine v_icmp_ne (tgt := 22) dX10_isSign_5 (by decide) (fun c1 => ?_) (fun c1 => ?_)
  · replace h := b_wp_f c1 h
    refine v_iconst ⟨by decide, by decide⟩ dX10_isSign_22 ?_
    refine v_zreturn rfl (Or.inl rfl) dX10_isSign_23 ⟨by decide, by decide⟩ ?_
    exact ⟨_, rfl, rfl, h⟩
  · replace h := b_wp_t c1 h
    refine v_aload_n (f := 0) 0 rfl dX10_isSign_8 ?_
    refine v_getJ (kf := 4) (kz := 4) rfl kd_1 rfl ⟨by decide, by decide⟩ rfl wf_10_42 dX10_isSign_9 ?_
    refine v_iload_n (f := 1) 1 rfl dX10_isSign_12 ?_
    refine v_i2lN dX10_isSign_13 ?_
    refine v_lcmpN dX10_isSign_14 ?_
    refine v_if_ne (tgt := 22) dX10_isSign_15 (by decide) (fun c2 => ?_) (fun c2 => ?_)
    · replace h := b_wp_f c2 h
      refine v_iconst ⟨by decide, by decide⟩ dX10_isSign_22 ?_
      refine v_zreturn rfl (Or.inl rfl) dX10_isSign_23 ⟨by decide, by decide⟩ ?_
      exact ⟨_, rfl, rfl, h⟩
    · replace h := b_wp_t c2 h
      refine v_iconst ⟨by decide, by decide⟩ dX10_isSign_18 ?_
      refine v_goto (tgt := 23) dX10_isSign_19 (by decide) ?_
      refine v_zreturn rfl (Or.inr rfl) dX10_isSign_23 ⟨by decide, by decide⟩ ?_
      exact ⟨_, rfl, rfl, h⟩
theorem cf_X10_isSign {l : Launch} {E : bE} {M : bM} {v1 : Int} {Q : Int → Prop} (h : b_wp (F_X10_isSign v1 M) Q) : b_C l E xX10_isSign yX10_isSign [bR 1, bI v1] M (b_pIp M Q) := b_met (by decide) ⟨rfl, rfl⟩ (Nat.le_of_ble_eq_true rfl) (fun _ _ => t_X10_isSign h)
abbrev xX5_readLine : bX := ("BurntHall$Lots", prog_7_method_19_code, 4, (Option.some Jvm.ClassFile.FieldType.boolean), b_rm 3 0 0, 0, "readLine")
abbrev yX5_readLine : MethodName := ⟨"BurntHall$Lots", "readLine", "(LBurntHall$Tape;I)Z"⟩
theorem dX5_readLine_0 : decode prog_7_method_19_code 0 = .ok (.iconst 0, 1) := by decide +kernel
theorem dX5_readLine_1 : decode prog_7_method_19_code 1 = .ok (.istore_n 3, 1) := by decide +kernel
theorem dX5_readLine_2 : decode prog_7_method_19_code 2 = .ok (.iload_n 3, 1) := by decide +kernel
theorem dX5_readLine_3 : decode prog_7_method_19_code 3 = .ok (.aload_n 0, 1) := by decide +kernel
theorem dX5_readLine_4 : decode prog_7_method_19_code 4 = .ok (.getfield 17, 3) := by decide +kernel
theorem dX5_readLine_7 : decode prog_7_method_19_code 7 = .ok (.arraylength, 1) := by decide +kernel
theorem dX5_readLine_8 : decode prog_7_method_19_code 8 = .ok (.if_icmp .ge 22, 3) := by decide +kernel
theorem dX5_readLine_11 : decode prog_7_method_19_code 11 = .ok (.aload_n 1, 1) := by decide +kernel
theorem dX5_readLine_12 : decode prog_7_method_19_code 12 = .ok (.aload_n 0, 1) := by decide +kernel
theorem dX5_readLine_13 : decode prog_7_method_19_code 13 = .ok (.getfield 17, 3) := by decide +kernel
theorem dX5_readLine_16 : decode prog_7_method_19_code 16 = .ok (.iload_n 3, 1) := by decide +kernel
theorem dX5_readLine_17 : decode prog_7_method_19_code 17 = .ok (.laload, 1) := by decide +kernel
theorem dX5_readLine_18 : decode prog_7_method_19_code 18 = .ok (.invokevirtual 131, 3) := by decide +kernel
theorem dX5_readLine_21 : decode prog_7_method_19_code 21 = .ok (.ifCond .ne 9, 3) := by decide +kernel
theorem dX5_readLine_24 : decode prog_7_method_19_code 24 = .ok (.iinc 3 1, 3) := by decide +kernel
theorem dX5_readLine_27 : decode prog_7_method_19_code 27 = .ok (.goto (-25), 3) := by decide +kernel
theorem dX5_readLine_30 : decode prog_7_method_19_code 30 = .ok (.iload_n 3, 1) := by decide +kernel
theorem dX5_readLine_31 : decode prog_7_method_19_code 31 = .ok (.aload_n 0, 1) := by decide +kernel
theorem dX5_readLine_32 : decode prog_7_method_19_code 32 = .ok (.getfield 17, 3) := by decide +kernel
theorem dX5_readLine_35 : decode prog_7_method_19_code 35 = .ok (.arraylength, 1) := by decide +kernel
theorem dX5_readLine_36 : decode prog_7_method_19_code 36 = .ok (.if_icmp .lt 9, 3) := by decide +kernel
theorem dX5_readLine_39 : decode prog_7_method_19_code 39 = .ok (.aload_n 1, 1) := by decide +kernel
theorem dX5_readLine_40 : decode prog_7_method_19_code 40 = .ok (.iconst 1, 1) := by decide +kernel
theorem dX5_readLine_41 : decode prog_7_method_19_code 41 = .ok (.invokevirtual 135, 3) := by decide +kernel
theorem dX5_readLine_44 : decode prog_7_method_19_code 44 = .ok (.ireturn, 1) := by decide +kernel
theorem dX5_readLine_45 : decode prog_7_method_19_code 45 = .ok (.iload_n 2, 1) := by decide +kernel
theorem dX5_readLine_46 : decode prog_7_method_19_code 46 = .ok (.bipush 12, 2) := by decide +kernel
theorem dX5_readLine_48 : decode prog_7_method_19_code 48 = .ok (.if_icmp .lt 9, 3) := by decide +kernel
theorem dX5_readLine_51 : decode prog_7_method_19_code 51 = .ok (.aload_n 1, 1) := by decide +kernel
theorem dX5_readLine_52 : decode prog_7_method_19_code 52 = .ok (.iconst 4, 1) := by decide +kernel
theorem dX5_readLine_53 : decode prog_7_method_19_code 53 = .ok (.invokevirtual 135, 3) := by decide +kernel
theorem dX5_readLine_56 : decode prog_7_method_19_code 56 = .ok (.ireturn, 1) := by decide +kernel
theorem dX5_readLine_57 : decode prog_7_method_19_code 57 = .ok (.aload_n 1, 1) := by decide +kernel
theorem dX5_readLine_58 : decode prog_7_method_19_code 58 = .ok (.invokevirtual 128, 3) := by decide +kernel
theorem dX5_readLine_61 : decode prog_7_method_19_code 61 = .ok (.aload_n 1, 1) := by decide +kernel
theorem dX5_readLine_62 : decode prog_7_method_19_code 62 = .ok (.getfield 121, 3) := by decide +kernel
theorem dX5_readLine_65 : decode prog_7_method_19_code 65 = .ok (.iconst 2, 1) := by decide +kernel
theorem dX5_readLine_66 : decode prog_7_method_19_code 66 = .ok (.if_icmp .eq 9, 3) := by decide +kernel
theorem dX5_readLine_69 : decode prog_7_method_19_code 69 = .ok (.aload_n 1, 1) := by decide +kernel
theorem dX5_readLine_70 : decode prog_7_method_19_code 70 = .ok (.iconst 1, 1) := by decide +kernel
theorem dX5_readLine_71 : decode prog_7_method_19_code 71 = .ok (.invokevirtual 135, 3) := by decide +kernel
theorem dX5_readLine_74 : decode prog_7_method_19_code 74 = .ok (.ireturn, 1) := by decide +kernel
theorem dX5_readLine_75 : decode prog_7_method_19_code 75 = .ok (.aload_n 1, 1) := by decide +kernel
theorem dX5_readLine_76 : decode prog_7_method_19_code 76 = .ok (.invokevirtual 138, 3) := by decide +kernel
theorem dX5_readLine_79 : decode prog_7_method_19_code 79 = .ok (.iconst 1, 1) := by decide +kernel
theorem dX5_readLine_80 : decode prog_7_method_19_code 80 = .ok (.if_icmp .lt 12, 3) := by decide +kernel
theorem dX5_readLine_83 : decode prog_7_method_19_code 83 = .ok (.aload_n 1, 1) := by decide +kernel
theorem dX5_readLine_84 : decode prog_7_method_19_code 84 = .ok (.invokevirtual 138, 3) := by decide +kernel
theorem dX5_readLine_87 : decode prog_7_method_19_code 87 = .ok (.bipush 60, 2) := by decide +kernel
theorem dX5_readLine_89 : decode prog_7_method_19_code 89 = .ok (.if_icmp .le 9, 3) := by decide +kernel
theorem dX5_readLine_92 : decode prog_7_method_19_code 92 = .ok (.aload_n 1, 1) := by decide +kernel
theorem dX5_readLine_93 : decode prog_7_method_19_code 93 = .ok (.iconst 2, 1) := by decide +kernel
theorem dX5_readLine_94 : decode prog_7_method_19_code 94 = .ok (.invokevirtual 135, 3) := by decide +kernel
theorem dX5_readLine_97 : decode prog_7_method_19_code 97 = .ok (.ireturn, 1) := by decide +kernel
theorem dX5_readLine_98 : decode prog_7_method_19_code 98 = .ok (.aload_n 0, 1) := by decide +kernel
theorem dX5_readLine_99 : decode prog_7_method_19_code 99 = .ok (.getfield 60, 3) := by decide +kernel
theorem dX5_readLine_102 : decode prog_7_method_19_code 102 = .ok (.iload_n 2, 1) := by decide +kernel
theorem dX5_readLine_103 : decode prog_7_method_19_code 103 = .ok (.iload_n 3, 1) := by decide +kernel
theorem dX5_readLine_104 : decode prog_7_method_19_code 104 = .ok (.ldc 142, 2) := by decide +kernel
theorem dX5_readLine_106 : decode prog_7_method_19_code 106 = .ok (.imul, 1) := by decide +kernel
theorem dX5_readLine_107 : decode prog_7_method_19_code 107 = .ok (.aload_n 1, 1) := by decide +kernel
theorem dX5_readLine_108 : decode prog_7_method_19_code 108 = .ok (.invokevirtual 138, 3) := by decide +kernel
theorem dX5_readLine_111 : decode prog_7_method_19_code 111 = .ok (.iadd, 1) := by decide +kernel
theorem dX5_readLine_112 : decode prog_7_method_19_code 112 = .ok (.iastore, 1) := by decide +kernel
theorem dX5_readLine_113 : decode prog_7_method_19_code 113 = .ok (.aload_n 1, 1) := by decide +kernel
theorem dX5_readLine_114 : decode prog_7_method_19_code 114 = .ok (.invokevirtual 128, 3) := by decide +kernel
theorem dX5_readLine_117 : decode prog_7_method_19_code 117 = .ok (.aload_n 1, 1) := by decide +kernel
theorem dX5_readLine_118 : decode prog_7_method_19_code 118 = .ok (.bipush 59, 2) := by decide +kernel
theorem dX5_readLine_120 : decode prog_7_method_19_code 120 = .ok (.invokevirtual 143, 3) := by decide +kernel
theorem dX5_readLine_123 : decode prog_7_method_19_code 123 = .ok (.ifCond .ne 11, 3) := by decide +kernel
theorem dX5_readLine_126 : decode prog_7_method_19_code 126 = .ok (.aload_n 1, 1) := by decide +kernel
theorem dX5_readLine_127 : decode prog_7_method_19_code 127 = .ok (.iconst 1, 1) := by decide +kernel
theorem dX5_readLine_128 : decode prog_7_method_19_code 128 = .ok (.invokevirtual 135, 3) := by decide +kernel
theorem dX5_readLine_131 : decode prog_7_method_19_code 131 = .ok (.ifCond .eq 7, 3) := by decide +kernel
theorem dX5_readLine_134 : decode prog_7_method_19_code 134 = .ok (.iconst 1, 1) := by decide +kernel
theorem dX5_readLine_135 : decode prog_7_method_19_code 135 = .ok (.goto 4, 3) := by decide +kernel
theorem dX5_readLine_138 : decode prog_7_method_19_code 138 = .ok (.iconst 0, 1) := by decide +kernel
theorem dX5_readLine_139 : decode prog_7_method_19_code 139 = .ok (.ireturn, 1) := by decide +kernel
abbrev A_X5_readLine_1_2 (l : Launch) (E : bE) (Q : (Int × bM) → Prop) (v2 : Int) (M : bM) : (Int) → Prop := (fun t : Int => V l E xX5_readLine (0, 0) 2 [(0, bR 3), (1, bR 1), (2, bI v2), (3, bI t)] [] M (b_pI Q))
abbrev X_X5_readLine_1_2 (l : Launch) (E : bE) (Q : (Int × bM) → Prop) (v2 : Int) (M : bM) : (Int) → Prop := (fun t : Int => V l E xX5_readLine (0, 0) 30 [(0, bR 3), (1, bR 1), (2, bI v2), (3, bI t)] [] M (b_pI Q))
noncomputable def F_X5_readLine_1_s2 (v2 : Int) (v3 : Int) (M : bM) : Option ((Int) ⊕ (Int)) :=
  if 4 ≤ v3 then (some (.inr (v3))) else (b_g (0 ≤ v3 ∧ v3 < 4) (b_bind (F_X10_isWord (M 85 v3) M) (fun x3 => if x3 = 0 then (b_g (b_i32 (v3 + 1)) (some (.inl ((v3 + 1))))) else (some (.inr (v3))))))
theorem t_X5_readLine_1_s2 {l : Launch} {E : bE} {Q : (Int × bM) → Prop} {v2 : Int} {v3 : Int} {M : bM} (h : b_wp (F_X5_readLine_1_s2 v2 v3 M) (Sum.elim (A_X5_readLine_1_2 l E Q v2 M) (X_X5_readLine_1_2 l E Q v2 M))) : V l E xX5_readLine (0, 0) 2 [(0, bR 3), (1, bR 1), (2, bI v2), (3, bI v3)] [] M (b_pI Q) := by
  unfold F_X5_readLine_1_s2 at h
  refine v_iload_n (f := 3) 3 rfl dX5_readLine_2 ?_
  refine v_aload_n (f := 0) 0 rfl dX5_readLine_3 ?_
  refine v_getR (kf := 1) (kz := 1) rfl kd_3 rfl ⟨by decide, by decide⟩ rfl wf_5_17 dX5_readLine_4 ?_
  refine v_alen4 kd_85 (by decide) dX5_readLine_7 ?_
  refine v_icmp_ge (tgt := 30) dX5_readLine_8 (by decide) (fun c1 => ?_) (fun c1 => ?_)
  · replace h := b_wp_t c1 h
    exact h
  · replace h := b_wp_f c1 h
    obtain ⟨g2, h⟩ := b_wp_g h
    refine v_aload_n (f := 1) 1 rfl dX5_readLine_11 ?_
    refine v_aload_n (f := 0) 0 rfl dX5_readLine_12 ?_
    refine v_getR (kf := 1) (kz := 1) rfl kd_3 rfl ⟨by decide, by decide⟩ rfl wf_5_17 dX5_readLine_13 ?_
    refine v_iload_n (f := 3) 3 rfl dX5_readLine_16 ?_
    refine v_laload kd_85 g2 (by decide) dX5_readLine_17 ?_
    refine v_cVIp (nA := 1) (As := [bJ _]) (ix := 131) (cf_X10_isWord (b_wp_b h)) rfl kd_1 rfl rfl wc_X10_isWord wm_5_131 wi_X10_isWord ws_X10_isWord wn_10 ⟨by decide, by decide, by decide⟩ rfl ⟨by decide, by decide⟩ ⟨by decide, by decide⟩ (Nat.le_of_ble_eq_true rfl) dX5_readLine_18 (fun x3 h => ?_)
    refine v_if_ne (tgt := 30) dX5_readLine_21 (by decide) (fun c4 => ?_) (fun c4 => ?_)
    · replace h := b_wp_f c4 h
      exact h
    · replace h := b_wp_t c4 h
      obtain ⟨g5, h⟩ := b_wp_g h
      refine v_iincN (ls' := [(3, bI _), (0, bR _), (1, bR _), (2, bI _)]) 3 rfl (by decide) g5 dX5_readLine_24 rfl ?_
      refine v_goto (tgt := 2) dX5_readLine_27 (by decide) ?_
      refine v_sub (ls2 := [(0, bR _), (1, bR _), (2, bI _), (3, bI _)]) [1, 2, 3, 0] rfl ?_
      exact h
theorem l_X5_readLine_1_2 {l : Launch} {E : bE} {Q : (Int × bM) → Prop} {v2 : Int} {M : bM} {s : Int} (h : b_wp (b_loop (fun t => F_X5_readLine_1_s2 v2 t M) s) (X_X5_readLine_1_2 l E Q v2 M)) : A_X5_readLine_1_2 l E Q v2 M s := b_loop_wp (fun t h => t_X5_readLine_1_s2 h) s h
noncomputable def F_X5_readLine_1_b92 (M : bM) : Option (Int × bM) :=
  b_bind (F_X10_wrong 2 M) (fun t => b_two t (fun x12 M13 => b_g (x12 = 0 ∨ x12 = 1) (some (x12, M13))))
theorem t_X5_readLine_1_b92 {l : Launch} {E : bE} {Q : (Int × bM) → Prop} {M : bM} (h : b_wp (F_X5_readLine_1_b92 M) (Q)) : V l E xX5_readLine (0, 0) 92 [(1, bR 1)] [] M (b_pI Q) := by
  unfold F_X5_readLine_1_b92 at h
  refine v_aload_n (f := 1) 0 rfl dX5_readLine_92 ?_
  refine v_iconst ⟨by decide, by decide⟩ dX5_readLine_93 ?_
  refine v_cVI (nA := 1) (As := [bI _]) (ix := 135) (cf_X10_wrong (b_wp_b h)) rfl kd_1 rfl rfl wc_X10_wrong wm_5_135 wi_X10_wrong ws_X10_wrong wn_10 ⟨by decide, by decide, by decide⟩ rfl ⟨by decide, by decide⟩ ⟨by decide, by decide⟩ (Nat.le_of_ble_eq_true rfl) dX5_readLine_94 (fun x12 M13 h => ?_)
  replace h := b_wp_two h
  obtain ⟨g14, h⟩ := b_wp_g h
  refine v_zreturn rfl g14 dX5_readLine_97 ⟨by decide, by decide⟩ ?_
  exact ⟨_, rfl, h⟩
noncomputable def F_X5_readLine_1_b30 (v2 : Int) (v3 : Int) (M : bM) : Option (Int × bM) :=
  if v3 < 4 then (if v2 < 12 then (b_bind (F_X10_step M) (fun M8 => if (M8 1 2) = 2 then (b_bind (F_X10_number M8) (fun x10 => if x10 < 1 then (F_X5_readLine_1_b92 M8) else (b_bind (F_X10_number M8) (fun x15 => if x15 ≤ 60 then (b_g (b_i32 (v3 * 100000)) (b_bind (F_X10_number M8) (fun x18 => b_g ((b_i32 ((v3 * 100000) + x18)) ∧ (0 ≤ v2 ∧ v2 < 12)) (b_let (b_up M8 98 v2 ((v3 * 100000) + x18)) (fun M21 => b_bind (F_X10_step M21) (fun M22 => b_bind (F_X10_isSign 59 M22) (fun x23 => if x23 = 0 then (b_bind (F_X10_wrong 1 M22) (fun t => b_two t (fun x25 M26 => if x25 = 0 then (some (0, M26)) else (some (1, M26))))) else (some (1, M22))))))))) else (F_X5_readLine_1_b92 M8))))) else (b_bind (F_X10_wrong 1 M8) (fun t => b_two t (fun x28 M29 => b_g (x28 = 0 ∨ x28 = 1) (some (x28, M29))))))) else (b_bind (F_X10_wrong 4 M) (fun t => b_two t (fun x31 M32 => b_g (x31 = 0 ∨ x31 = 1) (some (x31, M32)))))) else (b_bind (F_X10_wrong 1 M) (fun t => b_two t (fun x34 M35 => b_g (x34 = 0 ∨ x34 = 1) (some (x34, M35)))))
theorem t_X5_readLine_1_b30 {l : Launch} {E : bE} {Q : (Int × bM) → Prop} {v2 : Int} {v3 : Int} {M : bM} (h : b_wp (F_X5_readLine_1_b30 v2 v3 M) (Q)) : V l E xX5_readLine (0, 0) 30 [(0, bR 3), (1, bR 1), (2, bI v2), (3, bI v3)] [] M (b_pI Q) := by
  unfold F_X5_readLine_1_b30 at h
  refine v_iload_n (f := 3) 3 rfl dX5_readLine_30 ?_
  refine v_aload_n (f := 0) 0 rfl dX5_readLine_31 ?_
  refine v_getR (kf := 1) (kz := 1) rfl kd_3 rfl ⟨by decide, by decide⟩ rfl wf_5_17 dX5_readLine_32 ?_
  refine v_alen4 kd_85 (by decide) dX5_readLine_35 ?_
  refine v_icmp_lt (tgt := 45) dX5_readLine_36 (by decide) (fun c6 => ?_) (fun c6 => ?_)
  · replace h := b_wp_t c6 h
    refine v_iload_n (f := 2) 2 rfl dX5_readLine_45 ?_
    refine v_bipush ⟨by decide, by decide⟩ (by decide) dX5_readLine_46 ?_
    refine v_icmp_lt (tgt := 57) dX5_readLine_48 (by decide) (fun c7 => ?_) (fun c7 => ?_)
    · replace h := b_wp_t c7 h
      refine v_aload_n (f := 1) 1 rfl dX5_readLine_57 ?_
      refine v_cVV (nA := 0) (As := []) (ix := 128) (cf_X10_step (b_wp_b h)) rfl kd_1 rfl rfl wc_X10_step wm_5_128 wi_X10_step ws_X10_step wn_10 ⟨by decide, by decide, by decide⟩ rfl ⟨by decide, by decide⟩ ⟨by decide, by decide⟩ (Nat.le_of_ble_eq_true rfl) dX5_readLine_58 (fun M8 h => ?_)
      refine v_aload_n (f := 1) 1 rfl dX5_readLine_61 ?_
      refine v_getI (kf := 2) (kz := 2) rfl kd_1 rfl ⟨by decide, by decide⟩ rfl wf_5_121 dX5_readLine_62 ?_
      refine v_iconst ⟨by decide, by decide⟩ dX5_readLine_65 ?_
      refine v_icmp_eq (tgt := 75) dX5_readLine_66 (by decide) (fun c9 => ?_) (fun c9 => ?_)
      · replace h := b_wp_t c9 h
        refine v_aload_n (f := 1) 1 rfl dX5_readLine_75 ?_
        refine v_cVIp (nA := 0) (As := []) (ix := 138) (cf_X10_number (b_wp_b h)) rfl kd_1 rfl rfl wc_X10_number wm_5_138 wi_X10_number ws_X10_number wn_10 ⟨by decide, by decide, by decide⟩ rfl ⟨by decide, by decide⟩ ⟨by decide, by decide⟩ (Nat.le_of_ble_eq_true rfl) dX5_readLine_76 (fun x10 h => ?_)
        refine v_iconst ⟨by decide, by decide⟩ dX5_readLine_79 ?_
        refine v_icmp_lt (tgt := 92) dX5_readLine_80 (by decide) (fun c11 => ?_) (fun c11 => ?_)
        · replace h := b_wp_t c11 h
          refine v_sub (ls2 := [(1, bR _)]) [1] rfl ?_
          exact t_X5_readLine_1_b92 h
        · replace h := b_wp_f c11 h
          refine v_aload_n (f := 1) 1 rfl dX5_readLine_83 ?_
          refine v_cVIp (nA := 0) (As := []) (ix := 138) (cf_X10_number (b_wp_b h)) rfl kd_1 rfl rfl wc_X10_number wm_5_138 wi_X10_number ws_X10_number wn_10 ⟨by decide, by decide, by decide⟩ rfl ⟨by decide, by decide⟩ ⟨by decide, by decide⟩ (Nat.le_of_ble_eq_true rfl) dX5_readLine_84 (fun x15 h => ?_)
          refine v_bipush ⟨by decide, by decide⟩ (by decide) dX5_readLine_87 ?_
          refine v_icmp_le (tgt := 98) dX5_readLine_89 (by decide) (fun c16 => ?_) (fun c16 => ?_)
          · replace h := b_wp_t c16 h
            obtain ⟨g17, h⟩ := b_wp_g h
            refine v_aload_n (f := 0) 0 rfl dX5_readLine_98 ?_
            refine v_getR (kf := 14) (kz := 14) rfl kd_3 rfl ⟨by decide, by decide⟩ rfl wf_5_60 dX5_readLine_99 ?_
            refine v_iload_n (f := 2) 2 rfl dX5_readLine_102 ?_
            refine v_iload_n (f := 3) 3 rfl dX5_readLine_103 ?_
            refine v_ldc (n := 100000) ⟨by decide, by decide⟩ wk_5_142 dX5_readLine_104 ?_
            refine v_imulN g17 dX5_readLine_106 ?_
            refine v_aload_n (f := 1) 1 rfl dX5_readLine_107 ?_
            refine v_cVIp (nA := 0) (As := []) (ix := 138) (cf_X10_number (b_wp_b h)) rfl kd_1 rfl rfl wc_X10_number wm_5_138 wi_X10_number ws_X10_number wn_10 ⟨by decide, by decide, by decide⟩ rfl ⟨by decide, by decide⟩ ⟨by decide, by decide⟩ (Nat.le_of_ble_eq_true rfl) dX5_readLine_108 (fun x18 h => ?_)
            obtain ⟨⟨g19, g20⟩, h⟩ := b_wp_g h
            refine v_iaddN g19 dX5_readLine_111 ?_
            refine v_iastore kd_98 g20 (by decide) dX5_readLine_112 ?_
            replace h := b_wp_l h
            refine v_aload_n (f := 1) 1 rfl dX5_readLine_113 ?_
            refine v_cVV (nA := 0) (As := []) (ix := 128) (cf_X10_step (b_wp_b h)) rfl kd_1 rfl rfl wc_X10_step wm_5_128 wi_X10_step ws_X10_step wn_10 ⟨by decide, by decide, by decide⟩ rfl ⟨by decide, by decide⟩ ⟨by decide, by decide⟩ (Nat.le_of_ble_eq_true rfl) dX5_readLine_114 (fun M22 h => ?_)
            refine v_aload_n (f := 1) 1 rfl dX5_readLine_117 ?_
            refine v_bipush ⟨by decide, by decide⟩ (by decide) dX5_readLine_118 ?_
            refine v_cVIp (nA := 1) (As := [bI _]) (ix := 143) (cf_X10_isSign (b_wp_b h)) rfl kd_1 rfl rfl wc_X10_isSign wm_5_143 wi_X10_isSign ws_X10_isSign wn_10 ⟨by decide, by decide, by decide⟩ rfl ⟨by decide, by decide⟩ ⟨by decide, by decide⟩ (Nat.le_of_ble_eq_true rfl) dX5_readLine_120 (fun x23 h => ?_)
            refine v_if_ne (tgt := 134) dX5_readLine_123 (by decide) (fun c24 => ?_) (fun c24 => ?_)
            · replace h := b_wp_f c24 h
              refine v_iconst ⟨by decide, by decide⟩ dX5_readLine_134 ?_
              refine v_goto (tgt := 139) dX5_readLine_135 (by decide) ?_
              refine v_zreturn rfl (Or.inr rfl) dX5_readLine_139 ⟨by decide, by decide⟩ ?_
              exact ⟨_, rfl, h⟩
            · replace h := b_wp_t c24 h
              refine v_aload_n (f := 1) 1 rfl dX5_readLine_126 ?_
              refine v_iconst ⟨by decide, by decide⟩ dX5_readLine_127 ?_
              refine v_cVI (nA := 1) (As := [bI _]) (ix := 135) (cf_X10_wrong (b_wp_b h)) rfl kd_1 rfl rfl wc_X10_wrong wm_5_135 wi_X10_wrong ws_X10_wrong wn_10 ⟨by decide, by decide, by decide⟩ rfl ⟨by decide, by decide⟩ ⟨by decide, by decide⟩ (Nat.le_of_ble_eq_true rfl) dX5_readLine_128 (fun x25 M26 h => ?_)
              replace h := b_wp_two h
              refine v_if_eq (tgt := 138) dX5_readLine_131 (by decide) (fun c27 => ?_) (fun c27 => ?_)
              · replace h := b_wp_t c27 h
                refine v_iconst ⟨by decide, by decide⟩ dX5_readLine_138 ?_
                refine v_zreturn rfl (Or.inl rfl) dX5_readLine_139 ⟨by decide, by decide⟩ ?_
                exact ⟨_, rfl, h⟩
              · replace h := b_wp_f c27 h
                refine v_iconst ⟨by decide, by decide⟩ dX5_readLine_134 ?_
                refine v_goto (tgt := 139) dX5_readLine_135 (by decide) ?_
                refine v_zreturn rfl (Or.inr rfl) dX5_readLine_139 ⟨by decide, by decide⟩ ?_
                exact ⟨_, rfl, h⟩
          · replace h := b_wp_f c16 h
            refine v_sub (ls2 := [(1, bR _)]) [1] rfl ?_
            exact t_X5_readLine_1_b92 h
      · replace h := b_wp_f c9 h
        refine v_aload_n (f := 1) 1 rfl dX5_readLine_69 ?_
        refine v_iconst ⟨by decide, by decide⟩ dX5_readLine_70 ?_
        refine v_cVI (nA := 1) (As := [bI _]) (ix := 135) (cf_X10_wrong (b_wp_b h)) rfl kd_1 rfl rfl wc_X10_wrong wm_5_135 wi_X10_wrong ws_X10_wrong wn_10 ⟨by decide, by decide, by decide⟩ rfl ⟨by decide, by decide⟩ ⟨by decide, by decide⟩ (Nat.le_of_ble_eq_true rfl) dX5_readLine_71 (fun x28 M29 h => ?_)
        replace h := b_wp_two h
        obtain ⟨g30, h⟩ := b_wp_g h
        refine v_zreturn rfl g30 dX5_readLine_74 ⟨by decide, by decide⟩ ?_
        exact ⟨_, rfl, h⟩
    · replace h := b_wp_f c7 h
      refine v_aload_n (f := 1) 1 rfl dX5_readLine_51 ?_
      refine v_iconst ⟨by decide, by decide⟩ dX5_readLine_52 ?_
      refine v_cVI (nA := 1) (As := [bI _]) (ix := 135) (cf_X10_wrong (b_wp_b h)) rfl kd_1 rfl rfl wc_X10_wrong wm_5_135 wi_X10_wrong ws_X10_wrong wn_10 ⟨by decide, by decide, by decide⟩ rfl ⟨by decide, by decide⟩ ⟨by decide, by decide⟩ (Nat.le_of_ble_eq_true rfl) dX5_readLine_53 (fun x31 M32 h => ?_)
      replace h := b_wp_two h
      obtain ⟨g33, h⟩ := b_wp_g h
      refine v_zreturn rfl g33 dX5_readLine_56 ⟨by decide, by decide⟩ ?_
      exact ⟨_, rfl, h⟩
  · replace h := b_wp_f c6 h
    refine v_aload_n (f := 1) 1 rfl dX5_readLine_39 ?_
    refine v_iconst ⟨by decide, by decide⟩ dX5_readLine_40 ?_
    refine v_cVI (nA := 1) (As := [bI _]) (ix := 135) (cf_X10_wrong (b_wp_b h)) rfl kd_1 rfl rfl wc_X10_wrong wm_5_135 wi_X10_wrong ws_X10_wrong wn_10 ⟨by decide, by decide, by decide⟩ rfl ⟨by decide, by decide⟩ ⟨by decide, by decide⟩ (Nat.le_of_ble_eq_true rfl) dX5_readLine_41 (fun x34 M35 h => ?_)
    replace h := b_wp_two h
    obtain ⟨g36, h⟩ := b_wp_g h
    refine v_zreturn rfl g36 dX5_readLine_44 ⟨by decide, by decide⟩ ?_
    exact ⟨_, rfl, h⟩
noncomputable def F_X5_readLine_1 (v2 : Int) (M : bM) : Option (Int × bM) :=
  b_bind (b_loop (fun t => F_X5_readLine_1_s2 v2 t M) (0)) (fun t => F_X5_readLine_1_b30 v2 t M)
theorem t_X5_readLine_1 {l : Launch} {E : bE} {Q : (Int × bM) → Prop} {v2 : Int} {M : bM} (h : b_wp (F_X5_readLine_1 v2 M) (Q)) : V l E xX5_readLine (0, 0) 0 [(0, bR 3), (1, bR 1), (2, bI v2)] [] M (b_pI Q) := by
  unfold F_X5_readLine_1 at h
  refine v_iconst ⟨by decide, by decide⟩ dX5_readLine_0 ?_
  refine v_istore_n (g := 3) (i := 3) (ls' := [(3, bI _), (0, bR _), (1, bR _), (2, bI _)]) rfl (by decide) dX5_readLine_1 rfl ?_
  refine v_sub (ls2 := [(0, bR _), (1, bR _), (2, bI _), (3, bI _)]) [1, 2, 3, 0] rfl ?_
  refine l_X5_readLine_1_2 (b_wp_m (fun t h => ?_) (b_wp_b h))
  show V l E xX5_readLine (0, 0) 30 [(0, bR 3), (1, bR 1), (2, bI _), (3, bI _)] [] _ (b_pI Q)
  exact t_X5_readLine_1_b30 h
theorem cf_X5_readLine_1 {l : Launch} {E : bE} {M : bM} {v2 : Int} {Q : (Int × bM) → Prop} (h : b_wp (F_X5_readLine_1 v2 M) Q) : b_C l E xX5_readLine yX5_readLine [bR 3, bR 1, bI v2] M (b_pI Q) := b_met (by decide) ⟨rfl, rfl⟩ (Nat.le_of_ble_eq_true rfl) (fun _ _ => t_X5_readLine_1 h)
abbrev xX5_readLines : bX := ("BurntHall$Lots", prog_7_method_18_code, 3, (Option.some Jvm.ClassFile.FieldType.int), b_rm 5 0 0, 0, "readLines")
abbrev yX5_readLines : MethodName := ⟨"BurntHall$Lots", "readLines", "(LBurntHall$Tape;)I"⟩
theorem dX5_readLines_0 : decode prog_7_method_18_code 0 = .ok (.aload_n 1, 1) := by decide +kernel
theorem dX5_readLines_1 : decode prog_7_method_18_code 1 = .ok (.invokevirtual 118, 3) := by decide +kernel
theorem dX5_readLines_4 : decode prog_7_method_18_code 4 = .ok (.iconst 0, 1) := by decide +kernel
theorem dX5_readLines_5 : decode prog_7_method_18_code 5 = .ok (.istore_n 2, 1) := by decide +kernel
theorem dX5_readLines_6 : decode prog_7_method_18_code 6 = .ok (.iload_n 2, 1) := by decide +kernel
theorem dX5_readLines_7 : decode prog_7_method_18_code 7 = .ok (.bipush 12, 2) := by decide +kernel
theorem dX5_readLines_9 : decode prog_7_method_18_code 9 = .ok (.if_icmp .gt 37, 3) := by decide +kernel
theorem dX5_readLines_12 : decode prog_7_method_18_code 12 = .ok (.aload_n 1, 1) := by decide +kernel
theorem dX5_readLines_13 : decode prog_7_method_18_code 13 = .ok (.getfield 121, 3) := by decide +kernel
theorem dX5_readLines_16 : decode prog_7_method_18_code 16 = .ok (.ifCond .ne 9, 3) := by decide +kernel
theorem dX5_readLines_19 : decode prog_7_method_18_code 19 = .ok (.iload_n 2, 1) := by decide +kernel
theorem dX5_readLines_20 : decode prog_7_method_18_code 20 = .ok (.ifCond .le 5, 3) := by decide +kernel
theorem dX5_readLines_23 : decode prog_7_method_18_code 23 = .ok (.iload_n 2, 1) := by decide +kernel
theorem dX5_readLines_24 : decode prog_7_method_18_code 24 = .ok (.ireturn, 1) := by decide +kernel
theorem dX5_readLines_25 : decode prog_7_method_18_code 25 = .ok (.aload_n 0, 1) := by decide +kernel
theorem dX5_readLines_26 : decode prog_7_method_18_code 26 = .ok (.aload_n 1, 1) := by decide +kernel
theorem dX5_readLines_27 : decode prog_7_method_18_code 27 = .ok (.iload_n 2, 1) := by decide +kernel
theorem dX5_readLines_28 : decode prog_7_method_18_code 28 = .ok (.invokevirtual 124, 3) := by decide +kernel
theorem dX5_readLines_31 : decode prog_7_method_18_code 31 = .ok (.ifCond .ne 5, 3) := by decide +kernel
theorem dX5_readLines_34 : decode prog_7_method_18_code 34 = .ok (.iconst (-1), 1) := by decide +kernel
theorem dX5_readLines_35 : decode prog_7_method_18_code 35 = .ok (.ireturn, 1) := by decide +kernel
theorem dX5_readLines_36 : decode prog_7_method_18_code 36 = .ok (.aload_n 1, 1) := by decide +kernel
theorem dX5_readLines_37 : decode prog_7_method_18_code 37 = .ok (.invokevirtual 128, 3) := by decide +kernel
theorem dX5_readLines_40 : decode prog_7_method_18_code 40 = .ok (.iinc 2 1, 3) := by decide +kernel
theorem dX5_readLines_43 : decode prog_7_method_18_code 43 = .ok (.goto (-37), 3) := by decide +kernel
theorem dX5_readLines_46 : decode prog_7_method_18_code 46 = .ok (.iconst (-1), 1) := by decide +kernel
theorem dX5_readLines_47 : decode prog_7_method_18_code 47 = .ok (.ireturn, 1) := by decide +kernel
abbrev A_X5_readLines_1_6 (l : Launch) (E : bE) (Q : (Int × bM) → Prop) : (Int × bM) → Prop := (fun t : Int × bM => V l E xX5_readLines (0, 0) 6 [(0, bR 3), (1, bR 1), (2, bI (t.1))] [] t.2 (b_pI Q))
abbrev X_X5_readLines_1_6 (l : Launch) (E : bE) (Q : (Int × bM) → Prop) : ((bM) ⊕ (Int × bM)) → Prop := (Sum.elim (fun t : bM => V l E xX5_readLines (0, 0) 46 [] [] t (b_pI Q)) Q)
noncomputable def F_X5_readLines_1_b25 (v2 : Int) (M : bM) : Option ((Int × bM) ⊕ ((bM) ⊕ (Int × bM))) :=
  b_bind (F_X5_readLine_1 v2 M) (fun t => b_two t (fun x4 M5 => if x4 = 0 then (some (.inr (.inr ((-1), M5)))) else (b_bind (F_X10_step M5) (fun M7 => b_g (b_i32 (v2 + 1)) (some (.inl ((v2 + 1), M7)))))))
theorem t_X5_readLines_1_b25 {l : Launch} {E : bE} {Q : (Int × bM) → Prop} {v2 : Int} {M : bM} (h : b_wp (F_X5_readLines_1_b25 v2 M) (Sum.elim (A_X5_readLines_1_6 l E Q ) (X_X5_readLines_1_6 l E Q ))) : V l E xX5_readLines (0, 0) 25 [(0, bR 3), (1, bR 1), (2, bI v2)] [] M (b_pI Q) := by
  unfold F_X5_readLines_1_b25 at h
  refine v_aload_n (f := 0) 0 rfl dX5_readLines_25 ?_
  refine v_aload_n (f := 1) 1 rfl dX5_readLines_26 ?_
  refine v_iload_n (f := 2) 2 rfl dX5_readLines_27 ?_
  refine v_cVI (nA := 2) (As := [bR _, bI _]) (ix := 124) (cf_X5_readLine_1 (b_wp_b h)) rfl kd_3 rfl rfl wc_X5_readLine wm_5_124 wi_X5_readLine ws_X5_readLine wn_5 ⟨by decide, by decide, by decide⟩ rfl ⟨by decide, by decide⟩ ⟨by decide, by decide⟩ (Nat.le_of_ble_eq_true rfl) dX5_readLines_28 (fun x4 M5 h => ?_)
  replace h := b_wp_two h
  refine v_if_ne (tgt := 36) dX5_readLines_31 (by decide) (fun c6 => ?_) (fun c6 => ?_)
  · replace h := b_wp_f c6 h
    refine v_aload_n (f := 1) 1 rfl dX5_readLines_36 ?_
    refine v_cVV (nA := 0) (As := []) (ix := 128) (cf_X10_step (b_wp_b h)) rfl kd_1 rfl rfl wc_X10_step wm_5_128 wi_X10_step ws_X10_step wn_10 ⟨by decide, by decide, by decide⟩ rfl ⟨by decide, by decide⟩ ⟨by decide, by decide⟩ (Nat.le_of_ble_eq_true rfl) dX5_readLines_37 (fun M7 h => ?_)
    obtain ⟨g8, h⟩ := b_wp_g h
    refine v_iincN (ls' := [(2, bI _), (0, bR _), (1, bR _)]) 2 rfl (by decide) g8 dX5_readLines_40 rfl ?_
    refine v_goto (tgt := 6) dX5_readLines_43 (by decide) ?_
    refine v_sub (ls2 := [(0, bR _), (1, bR _), (2, bI _)]) [1, 2, 0] rfl ?_
    exact h
  · replace h := b_wp_t c6 h
    refine v_iconst ⟨by decide, by decide⟩ dX5_readLines_34 ?_
    refine v_ireturn rfl dX5_readLines_35 ⟨by decide, by decide⟩ ?_
    exact ⟨_, rfl, h⟩
noncomputable def F_X5_readLines_1_s6 (v2 : Int) (M : bM) : Option ((Int × bM) ⊕ ((bM) ⊕ (Int × bM))) :=
  if 12 < v2 then (some (.inr (.inl (M)))) else (if (M 1 2) = 0 then (if v2 ≤ 0 then (F_X5_readLines_1_b25 v2 M) else (some (.inr (.inr (v2, M))))) else (F_X5_readLines_1_b25 v2 M))
theorem t_X5_readLines_1_s6 {l : Launch} {E : bE} {Q : (Int × bM) → Prop} {v2 : Int} {M : bM} (h : b_wp (F_X5_readLines_1_s6 v2 M) (Sum.elim (A_X5_readLines_1_6 l E Q ) (X_X5_readLines_1_6 l E Q ))) : V l E xX5_readLines (0, 0) 6 [(0, bR 3), (1, bR 1), (2, bI v2)] [] M (b_pI Q) := by
  unfold F_X5_readLines_1_s6 at h
  refine v_iload_n (f := 2) 2 rfl dX5_readLines_6 ?_
  refine v_bipush ⟨by decide, by decide⟩ (by decide) dX5_readLines_7 ?_
  refine v_icmp_gt (tgt := 46) dX5_readLines_9 (by decide) (fun c2 => ?_) (fun c2 => ?_)
  · replace h := b_wp_t c2 h
    refine v_sub (ls2 := []) [] rfl ?_
    exact h
  · replace h := b_wp_f c2 h
    refine v_aload_n (f := 1) 1 rfl dX5_readLines_12 ?_
    refine v_getI (kf := 2) (kz := 2) rfl kd_1 rfl ⟨by decide, by decide⟩ rfl wf_5_121 dX5_readLines_13 ?_
    refine v_if_ne (tgt := 25) dX5_readLines_16 (by decide) (fun c3 => ?_) (fun c3 => ?_)
    · replace h := b_wp_f c3 h
      exact t_X5_readLines_1_b25 h
    · replace h := b_wp_t c3 h
      refine v_iload_n (f := 2) 2 rfl dX5_readLines_19 ?_
      refine v_if_le (tgt := 25) dX5_readLines_20 (by decide) (fun c9 => ?_) (fun c9 => ?_)
      · replace h := b_wp_t c9 h
        exact t_X5_readLines_1_b25 h
      · replace h := b_wp_f c9 h
        refine v_iload_n (f := 2) 2 rfl dX5_readLines_23 ?_
        refine v_ireturn rfl dX5_readLines_24 ⟨by decide, by decide⟩ ?_
        exact ⟨_, rfl, h⟩
theorem l_X5_readLines_1_6 {l : Launch} {E : bE} {Q : (Int × bM) → Prop} {s : Int × bM} (h : b_wp (b_loop (fun t => F_X5_readLines_1_s6 t.1 t.2) s) (X_X5_readLines_1_6 l E Q )) : A_X5_readLines_1_6 l E Q  s := b_loop_wp (fun t h => t_X5_readLines_1_s6 h) s h
noncomputable def F_X5_readLines_1_b46 (M : bM) : Option (Int × bM) :=
  some ((-1), M)
theorem t_X5_readLines_1_b46 {l : Launch} {E : bE} {Q : (Int × bM) → Prop} {M : bM} (h : b_wp (F_X5_readLines_1_b46 M) (Q)) : V l E xX5_readLines (0, 0) 46 [] [] M (b_pI Q) := by
  unfold F_X5_readLines_1_b46 at h
  refine v_iconst ⟨by decide, by decide⟩ dX5_readLines_46 ?_
  refine v_ireturn rfl dX5_readLines_47 ⟨by decide, by decide⟩ ?_
  exact ⟨_, rfl, h⟩
noncomputable def F_X5_readLines_1 (M : bM) : Option (Int × bM) :=
  b_bind (F_X10_begin M) (fun M1 => b_bind (b_loop (fun t => F_X5_readLines_1_s6 t.1 t.2) (0, M1)) (Sum.elim (fun t => F_X5_readLines_1_b46 t) some))
theorem t_X5_readLines_1 {l : Launch} {E : bE} {Q : (Int × bM) → Prop} {M : bM} (h : b_wp (F_X5_readLines_1 M) (Q)) : V l E xX5_readLines (0, 0) 0 [(0, bR 3), (1, bR 1)] [] M (b_pI Q) := by
  unfold F_X5_readLines_1 at h
  refine v_aload_n (f := 1) 1 rfl dX5_readLines_0 ?_
  refine v_cVV (nA := 0) (As := []) (ix := 118) (cf_X10_begin (b_wp_b h)) rfl kd_1 rfl rfl wc_X10_begin wm_5_118 wi_X10_begin ws_X10_begin wn_10 ⟨by decide, by decide, by decide⟩ rfl ⟨by decide, by decide⟩ ⟨by decide, by decide⟩ (Nat.le_of_ble_eq_true rfl) dX5_readLines_1 (fun M1 h => ?_)
  refine v_iconst ⟨by decide, by decide⟩ dX5_readLines_4 ?_
  refine v_istore_n (g := 2) (i := 2) (ls' := [(2, bI _), (0, bR _), (1, bR _)]) rfl (by decide) dX5_readLines_5 rfl ?_
  refine v_sub (ls2 := [(0, bR _), (1, bR _), (2, bI _)]) [1, 2, 0] rfl ?_
  refine l_X5_readLines_1_6 (b_wp_m (fun t h => ?_) (b_wp_b h))
  cases t with
  | inr o => exact h
  | inl t =>
    show V l E xX5_readLines (0, 0) 46 [] [] _ (b_pI Q)
    replace h := b_wp_inl h
    exact t_X5_readLines_1_b46 h
theorem cf_X5_readLines_1 {l : Launch} {E : bE} {M : bM} {Q : (Int × bM) → Prop} (h : b_wp (F_X5_readLines_1 M) Q) : b_C l E xX5_readLines yX5_readLines [bR 3, bR 1] M (b_pI Q) := b_met (by decide) ⟨rfl, rfl⟩ (Nat.le_of_ble_eq_true rfl) (fun _ _ => t_X5_readLines_1 h)
abbrev xX5_readBounds : bX := ("BurntHall$Lots", prog_7_method_17_code, 6, (Option.some Jvm.ClassFile.FieldType.int), b_rm 6 0 0, 0, "readBounds")
abbrev yX5_readBounds : MethodName := ⟨"BurntHall$Lots", "readBounds", "(LBurntHall$Tape;III)I"⟩
theorem dX5_readBounds_0 : decode prog_7_method_17_code 0 = .ok (.aload_n 0, 1) := by decide +kernel
theorem dX5_readBounds_1 : decode prog_7_method_17_code 1 = .ok (.aload_n 1, 1) := by decide +kernel
theorem dX5_readBounds_2 : decode prog_7_method_17_code 2 = .ok (.invokevirtual 108, 3) := by decide +kernel
theorem dX5_readBounds_5 : decode prog_7_method_17_code 5 = .ok (.istore 5, 2) := by decide +kernel
theorem dX5_readBounds_7 : decode prog_7_method_17_code 7 = .ok (.iload 5, 2) := by decide +kernel
theorem dX5_readBounds_9 : decode prog_7_method_17_code 9 = .ok (.iconst (-1), 1) := by decide +kernel
theorem dX5_readBounds_10 : decode prog_7_method_17_code 10 = .ok (.if_icmp .eq 11, 3) := by decide +kernel
theorem dX5_readBounds_13 : decode prog_7_method_17_code 13 = .ok (.aload_n 0, 1) := by decide +kernel
theorem dX5_readBounds_14 : decode prog_7_method_17_code 14 = .ok (.iload_n 2, 1) := by decide +kernel
theorem dX5_readBounds_15 : decode prog_7_method_17_code 15 = .ok (.invokevirtual 87, 3) := by decide +kernel
theorem dX5_readBounds_18 : decode prog_7_method_17_code 18 = .ok (.ifCond .ne 5, 3) := by decide +kernel
theorem dX5_readBounds_21 : decode prog_7_method_17_code 21 = .ok (.iconst (-1), 1) := by decide +kernel
theorem dX5_readBounds_22 : decode prog_7_method_17_code 22 = .ok (.ireturn, 1) := by decide +kernel
theorem dX5_readBounds_23 : decode prog_7_method_17_code 23 = .ok (.aload_n 0, 1) := by decide +kernel
theorem dX5_readBounds_24 : decode prog_7_method_17_code 24 = .ok (.getfield 60, 3) := by decide +kernel
theorem dX5_readBounds_27 : decode prog_7_method_17_code 27 = .ok (.iconst 0, 1) := by decide +kernel
theorem dX5_readBounds_28 : decode prog_7_method_17_code 28 = .ok (.aload_n 0, 1) := by decide +kernel
theorem dX5_readBounds_29 : decode prog_7_method_17_code 29 = .ok (.getfield 57, 3) := by decide +kernel
theorem dX5_readBounds_32 : decode prog_7_method_17_code 32 = .ok (.iload_n 2, 1) := by decide +kernel
theorem dX5_readBounds_33 : decode prog_7_method_17_code 33 = .ok (.bipush 12, 2) := by decide +kernel
theorem dX5_readBounds_35 : decode prog_7_method_17_code 35 = .ok (.imul, 1) := by decide +kernel
theorem dX5_readBounds_36 : decode prog_7_method_17_code 36 = .ok (.bipush 12, 2) := by decide +kernel
theorem dX5_readBounds_38 : decode prog_7_method_17_code 38 = .ok (.invokestatic 112, 3) := by decide +kernel
theorem dX5_readBounds_41 : decode prog_7_method_17_code 41 = .ok (.aload_n 0, 1) := by decide +kernel
theorem dX5_readBounds_42 : decode prog_7_method_17_code 42 = .ok (.getfield 48, 3) := by decide +kernel
theorem dX5_readBounds_45 : decode prog_7_method_17_code 45 = .ok (.iload_n 2, 1) := by decide +kernel
theorem dX5_readBounds_46 : decode prog_7_method_17_code 46 = .ok (.iload 5, 2) := by decide +kernel
theorem dX5_readBounds_48 : decode prog_7_method_17_code 48 = .ok (.iastore, 1) := by decide +kernel
theorem dX5_readBounds_49 : decode prog_7_method_17_code 49 = .ok (.aload_n 0, 1) := by decide +kernel
theorem dX5_readBounds_50 : decode prog_7_method_17_code 50 = .ok (.getfield 51, 3) := by decide +kernel
theorem dX5_readBounds_53 : decode prog_7_method_17_code 53 = .ok (.iload_n 2, 1) := by decide +kernel
theorem dX5_readBounds_54 : decode prog_7_method_17_code 54 = .ok (.iload_n 3, 1) := by decide +kernel
theorem dX5_readBounds_55 : decode prog_7_method_17_code 55 = .ok (.iastore, 1) := by decide +kernel
theorem dX5_readBounds_56 : decode prog_7_method_17_code 56 = .ok (.aload_n 0, 1) := by decide +kernel
theorem dX5_readBounds_57 : decode prog_7_method_17_code 57 = .ok (.getfield 54, 3) := by decide +kernel
theorem dX5_readBounds_60 : decode prog_7_method_17_code 60 = .ok (.iload_n 2, 1) := by decide +kernel
theorem dX5_readBounds_61 : decode prog_7_method_17_code 61 = .ok (.iload 4, 2) := by decide +kernel
theorem dX5_readBounds_63 : decode prog_7_method_17_code 63 = .ok (.iastore, 1) := by decide +kernel
theorem dX5_readBounds_64 : decode prog_7_method_17_code 64 = .ok (.iload 5, 2) := by decide +kernel
theorem dX5_readBounds_66 : decode prog_7_method_17_code 66 = .ok (.ireturn, 1) := by decide +kernel
noncomputable def F_X5_readBounds_1 (v2 : Int) (v3 : Int) (v4 : Int) (M : bM) : Option (Int × bM) :=
  b_bind (F_X5_readLines_1 M) (fun t => b_two t (fun x1 M2 => if x1 = (-1) then (some ((-1), M2)) else (b_bind (F_X5_has v2 M2) (fun x4 => if x4 = 0 then (some ((-1), M2)) else (b_g ((b_i32 (v2 * 12)) ∧ (0 ≤ (0 : Int) ∧ 0 ≤ (v2 * 12) ∧ 0 ≤ (12 : Int) ∧ (0 : Int) + 12 ≤ 12 ∧ (v2 * 12) + 12 ≤ 720)) (b_let (b_set M2 97 (s_cpy (M2 98) (M2 97) 0 (v2 * 12) 12)) (fun M8 => b_g (0 ≤ v2 ∧ v2 < 60) (b_let (b_up M8 94 v2 x1) (fun M10 => b_g (0 ≤ v2 ∧ v2 < 60) (b_let (b_up M10 95 v2 v3) (fun M12 => b_g (0 ≤ v2 ∧ v2 < 60) (b_let (b_up M12 96 v2 v4) (fun M14 => some (x1, M14))))))))))))))
theorem t_X5_readBounds_1 {l : Launch} {E : bE} {Q : (Int × bM) → Prop} {v2 : Int} {v3 : Int} {v4 : Int} {M : bM} (h : b_wp (F_X5_readBounds_1 v2 v3 v4 M) (Q)) : V l E xX5_readBounds (0, 0) 0 [(0, bR 3), (1, bR 1), (2, bI v2), (3, bI v3), (4, bI v4)] [] M (b_pI Q) := by
  unfold F_X5_readBounds_1 at h
  refine v_aload_n (f := 0) 0 rfl dX5_readBounds_0 ?_
  refine v_aload_n (f := 1) 1 rfl dX5_readBounds_1 ?_
  refine v_cVI (nA := 1) (As := [bR _]) (ix := 108) (cf_X5_readLines_1 (b_wp_b h)) rfl kd_3 rfl rfl wc_X5_readLines wm_5_108 wi_X5_readLines ws_X5_readLines wn_5 ⟨by decide, by decide, by decide⟩ rfl ⟨by decide, by decide⟩ ⟨by decide, by decide⟩ (Nat.le_of_ble_eq_true rfl) dX5_readBounds_2 (fun x1 M2 h => ?_)
  replace h := b_wp_two h
  refine v_istore (i := 5) (ls' := [(5, bI _), (0, bR _), (1, bR _), (2, bI _), (3, bI _), (4, bI _)]) (by decide) dX5_readBounds_5 rfl ?_
  refine v_iload (i := 5) 0 rfl dX5_readBounds_7 ?_
  refine v_iconst ⟨by decide, by decide⟩ dX5_readBounds_9 ?_
  refine v_icmp_eq (tgt := 21) dX5_readBounds_10 (by decide) (fun c3 => ?_) (fun c3 => ?_)
  · replace h := b_wp_t c3 h
    refine v_iconst ⟨by decide, by decide⟩ dX5_readBounds_21 ?_
    refine v_ireturn rfl dX5_readBounds_22 ⟨by decide, by decide⟩ ?_
    exact ⟨_, rfl, h⟩
  · replace h := b_wp_f c3 h
    refine v_aload_n (f := 0) 1 rfl dX5_readBounds_13 ?_
    refine v_iload_n (f := 2) 3 rfl dX5_readBounds_14 ?_
    refine v_cVIp (nA := 1) (As := [bI _]) (ix := 87) (cf_X5_has (b_wp_b h)) rfl kd_3 rfl rfl wc_X5_has wm_5_87 wi_X5_has ws_X5_has wn_5 ⟨by decide, by decide, by decide⟩ rfl ⟨by decide, by decide⟩ ⟨by decide, by decide⟩ (Nat.le_of_ble_eq_true rfl) dX5_readBounds_15 (fun x4 h => ?_)
    refine v_if_ne (tgt := 23) dX5_readBounds_18 (by decide) (fun c5 => ?_) (fun c5 => ?_)
    · replace h := b_wp_f c5 h
      obtain ⟨⟨g6, g7⟩, h⟩ := b_wp_g h
      refine v_aload_n (f := 0) 1 rfl dX5_readBounds_23 ?_
      refine v_getR (kf := 14) (kz := 14) rfl kd_3 rfl ⟨by decide, by decide⟩ rfl wf_5_60 dX5_readBounds_24 ?_
      refine v_iconst ⟨by decide, by decide⟩ dX5_readBounds_27 ?_
      refine v_aload_n (f := 0) 1 rfl dX5_readBounds_28 ?_
      refine v_getR (kf := 13) (kz := 13) rfl kd_3 rfl ⟨by decide, by decide⟩ rfl wf_5_57 dX5_readBounds_29 ?_
      refine v_iload_n (f := 2) 3 rfl dX5_readBounds_32 ?_
      refine v_bipush ⟨by decide, by decide⟩ (by decide) dX5_readBounds_33 ?_
      refine v_imulN g6 dX5_readBounds_35 ?_
      refine v_bipush ⟨by decide, by decide⟩ (by decide) dX5_readBounds_36 ?_
      refine g_copyI (b_in kd_98 (by simp)) (b_in kd_97 (by simp)) kd_98 kd_97 g7 wm_5_112 ⟨by decide, by decide⟩ (Nat.le_of_ble_eq_true rfl) dX5_readBounds_38 ?_
      replace h := b_wp_l h
      obtain ⟨g9, h⟩ := b_wp_g h
      refine v_aload_n (f := 0) 1 rfl dX5_readBounds_41 ?_
      refine v_getR (kf := 10) (kz := 10) rfl kd_3 rfl ⟨by decide, by decide⟩ rfl wf_5_48 dX5_readBounds_42 ?_
      refine v_iload_n (f := 2) 3 rfl dX5_readBounds_45 ?_
      refine v_iload (i := 5) 0 rfl dX5_readBounds_46 ?_
      refine v_iastore kd_94 g9 (by decide) dX5_readBounds_48 ?_
      replace h := b_wp_l h
      obtain ⟨g11, h⟩ := b_wp_g h
      refine v_aload_n (f := 0) 1 rfl dX5_readBounds_49 ?_
      refine v_getR (kf := 11) (kz := 11) rfl kd_3 rfl ⟨by decide, by decide⟩ rfl wf_5_51 dX5_readBounds_50 ?_
      refine v_iload_n (f := 2) 3 rfl dX5_readBounds_53 ?_
      refine v_iload_n (f := 3) 4 rfl dX5_readBounds_54 ?_
      refine v_iastore kd_95 g11 (by decide) dX5_readBounds_55 ?_
      replace h := b_wp_l h
      obtain ⟨g13, h⟩ := b_wp_g h
      refine v_aload_n (f := 0) 1 rfl dX5_readBounds_56 ?_
      refine v_getR (kf := 12) (kz := 12) rfl kd_3 rfl ⟨by decide, by decide⟩ rfl wf_5_54 dX5_readBounds_57 ?_
      refine v_iload_n (f := 2) 3 rfl dX5_readBounds_60 ?_
      refine v_iload (i := 4) 5 rfl dX5_readBounds_61 ?_
      refine v_iastore kd_96 g13 (by decide) dX5_readBounds_63 ?_
      replace h := b_wp_l h
      refine v_iload (i := 5) 0 rfl dX5_readBounds_64 ?_
      refine v_ireturn rfl dX5_readBounds_66 ⟨by decide, by decide⟩ ?_
      exact ⟨_, rfl, h⟩
    · replace h := b_wp_t c5 h
      refine v_iconst ⟨by decide, by decide⟩ dX5_readBounds_21 ?_
      refine v_ireturn rfl dX5_readBounds_22 ⟨by decide, by decide⟩ ?_
      exact ⟨_, rfl, h⟩
theorem cf_X5_readBounds_1 {l : Launch} {E : bE} {M : bM} {v2 : Int} {v3 : Int} {v4 : Int} {Q : (Int × bM) → Prop} (h : b_wp (F_X5_readBounds_1 v2 v3 v4 M) Q) : b_C l E xX5_readBounds yX5_readBounds [bR 3, bR 1, bI v2, bI v3, bI v4] M (b_pI Q) := b_met (by decide) ⟨rfl, rfl⟩ (Nat.le_of_ble_eq_true rfl) (fun _ _ => t_X5_readBounds_1 h)
abbrev xX11_bounds : bX := ("BurntHall", prog_1_method_19_code, 5, (Option.some Jvm.ClassFile.FieldType.int), b_rm 7 0 0, 0, "bounds")
abbrev yX11_bounds : MethodName := ⟨"BurntHall", "bounds", "(III)I"⟩
theorem dX11_bounds_0 : decode prog_1_method_19_code 0 = .ok (.bipush (-2), 2) := by decide +kernel
theorem dX11_bounds_2 : decode prog_1_method_19_code 2 = .ok (.istore 4, 2) := by decide +kernel
theorem dX11_bounds_4 : decode prog_1_method_19_code 4 = .ok (.aload_n 0, 1) := by decide +kernel
theorem dX11_bounds_5 : decode prog_1_method_19_code 5 = .ok (.getfield 26, 3) := by decide +kernel
theorem dX11_bounds_8 : decode prog_1_method_19_code 8 = .ok (.iload_n 1, 1) := by decide +kernel
theorem dX11_bounds_9 : decode prog_1_method_19_code 9 = .ok (.invokevirtual 146, 3) := by decide +kernel
theorem dX11_bounds_12 : decode prog_1_method_19_code 12 = .ok (.ifCond .eq 39, 3) := by decide +kernel
theorem dX11_bounds_15 : decode prog_1_method_19_code 15 = .ok (.iload_n 2, 1) := by decide +kernel
theorem dX11_bounds_16 : decode prog_1_method_19_code 16 = .ok (.ifCond .lt 35, 3) := by decide +kernel
theorem dX11_bounds_19 : decode prog_1_method_19_code 19 = .ok (.iload_n 2, 1) := by decide +kernel
theorem dX11_bounds_20 : decode prog_1_method_19_code 20 = .ok (.bipush 99, 2) := by decide +kernel
theorem dX11_bounds_22 : decode prog_1_method_19_code 22 = .ok (.if_icmp .gt 29, 3) := by decide +kernel
theorem dX11_bounds_25 : decode prog_1_method_19_code 25 = .ok (.iload_n 3, 1) := by decide +kernel
theorem dX11_bounds_26 : decode prog_1_method_19_code 26 = .ok (.ifCond .lt 25, 3) := by decide +kernel
theorem dX11_bounds_29 : decode prog_1_method_19_code 29 = .ok (.iload_n 3, 1) := by decide +kernel
theorem dX11_bounds_30 : decode prog_1_method_19_code 30 = .ok (.bipush 99, 2) := by decide +kernel
theorem dX11_bounds_32 : decode prog_1_method_19_code 32 = .ok (.if_icmp .gt 19, 3) := by decide +kernel
theorem dX11_bounds_35 : decode prog_1_method_19_code 35 = .ok (.aload_n 0, 1) := by decide +kernel
theorem dX11_bounds_36 : decode prog_1_method_19_code 36 = .ok (.getfield 26, 3) := by decide +kernel
theorem dX11_bounds_39 : decode prog_1_method_19_code 39 = .ok (.aload_n 0, 1) := by decide +kernel
theorem dX11_bounds_40 : decode prog_1_method_19_code 40 = .ok (.getfield 10, 3) := by decide +kernel
theorem dX11_bounds_43 : decode prog_1_method_19_code 43 = .ok (.iload_n 1, 1) := by decide +kernel
theorem dX11_bounds_44 : decode prog_1_method_19_code 44 = .ok (.iload_n 2, 1) := by decide +kernel
theorem dX11_bounds_45 : decode prog_1_method_19_code 45 = .ok (.iload_n 3, 1) := by decide +kernel
theorem dX11_bounds_46 : decode prog_1_method_19_code 46 = .ok (.invokevirtual 178, 3) := by decide +kernel
theorem dX11_bounds_49 : decode prog_1_method_19_code 49 = .ok (.istore 4, 2) := by decide +kernel
theorem dX11_bounds_51 : decode prog_1_method_19_code 51 = .ok (.aload_n 0, 1) := by decide +kernel
theorem dX11_bounds_52 : decode prog_1_method_19_code 52 = .ok (.getfield 10, 3) := by decide +kernel
theorem dX11_bounds_55 : decode prog_1_method_19_code 55 = .ok (.invokevirtual 182, 3) := by decide +kernel
theorem dX11_bounds_58 : decode prog_1_method_19_code 58 = .ok (.iload 4, 2) := by decide +kernel
theorem dX11_bounds_60 : decode prog_1_method_19_code 60 = .ok (.ireturn, 1) := by decide +kernel
noncomputable def F_X11_bounds_b51 (v4 : Int) (M : bM) : Option (Int × bM) :=
  b_bind (F_X10_clear M) (fun M3 => some (v4, M3))
theorem t_X11_bounds_b51 {l : Launch} {E : bE} {Q : (Int × bM) → Prop} {v4 : Int} {M : bM} (h : b_wp (F_X11_bounds_b51 v4 M) (Q)) : V l E xX11_bounds (0, 0) 51 [(0, bR 0), (4, bI v4)] [] M (b_pI Q) := by
  unfold F_X11_bounds_b51 at h
  refine v_aload_n (f := 0) 0 rfl dX11_bounds_51 ?_
  refine v_getR (kf := 0) (kz := 0) rfl kd_0 rfl ⟨by decide, by decide⟩ rfl wf_11_10 dX11_bounds_52 ?_
  refine v_cVV (nA := 0) (As := []) (ix := 182) (cf_X10_clear (b_wp_b h)) rfl kd_1 rfl rfl wc_X10_clear wm_11_182 wi_X10_clear ws_X10_clear wn_10 ⟨by decide, by decide, by decide⟩ rfl ⟨by decide, by decide⟩ ⟨by decide, by decide⟩ (Nat.le_of_ble_eq_true rfl) dX11_bounds_55 (fun M3 h => ?_)
  refine v_iload (i := 4) 1 rfl dX11_bounds_58 ?_
  refine v_ireturn rfl dX11_bounds_60 ⟨by decide, by decide⟩ ?_
  exact ⟨_, rfl, h⟩
noncomputable def F_X11_bounds (v1 : Int) (v2 : Int) (v3 : Int) (M : bM) : Option (Int × bM) :=
  b_bind (F_X5_has v1 M) (fun x1 => if x1 = 0 then (F_X11_bounds_b51 (-2) M) else (if v2 < 0 then (F_X11_bounds_b51 (-2) M) else (if 99 < v2 then (F_X11_bounds_b51 (-2) M) else (if v3 < 0 then (F_X11_bounds_b51 (-2) M) else (if 99 < v3 then (F_X11_bounds_b51 (-2) M) else (b_bind (F_X5_readBounds_1 v1 v2 v3 M) (fun t => b_two t (fun x8 M9 => F_X11_bounds_b51 x8 M9))))))))
theorem t_X11_bounds {l : Launch} {E : bE} {Q : (Int × bM) → Prop} {v1 : Int} {v2 : Int} {v3 : Int} {M : bM} (h : b_wp (F_X11_bounds v1 v2 v3 M) (Q)) : V l E xX11_bounds (0, 0) 0 [(0, bR 0), (1, bI v1), (2, bI v2), (3, bI v3)] [] M (b_pI Q) := by
  unfold F_X11_bounds at h
  refine v_bipush ⟨by decide, by decide⟩ (by decide) dX11_bounds_0 ?_
  refine v_istore (i := 4) (ls' := [(4, bI _), (0, bR _), (1, bI _), (2, bI _), (3, bI _)]) (by decide) dX11_bounds_2 rfl ?_
  refine v_aload_n (f := 0) 1 rfl dX11_bounds_4 ?_
  refine v_getR (kf := 2) (kz := 2) rfl kd_0 rfl ⟨by decide, by decide⟩ rfl wf_11_26 dX11_bounds_5 ?_
  refine v_iload_n (f := 1) 2 rfl dX11_bounds_8 ?_
  refine v_cVIp (nA := 1) (As := [bI _]) (ix := 146) (cf_X5_has (b_wp_b h)) rfl kd_3 rfl rfl wc_X5_has wm_11_146 wi_X5_has ws_X5_has wn_5 ⟨by decide, by decide, by decide⟩ rfl ⟨by decide, by decide⟩ ⟨by decide, by decide⟩ (Nat.le_of_ble_eq_true rfl) dX11_bounds_9 (fun x1 h => ?_)
  refine v_if_eq (tgt := 51) dX11_bounds_12 (by decide) (fun c2 => ?_) (fun c2 => ?_)
  · replace h := b_wp_t c2 h
    refine v_sub (ls2 := [(0, bR _), (4, bI _)]) [1, 0] rfl ?_
    exact t_X11_bounds_b51 h
  · replace h := b_wp_f c2 h
    refine v_iload_n (f := 2) 3 rfl dX11_bounds_15 ?_
    refine v_if_lt (tgt := 51) dX11_bounds_16 (by decide) (fun c4 => ?_) (fun c4 => ?_)
    · replace h := b_wp_t c4 h
      refine v_sub (ls2 := [(0, bR _), (4, bI _)]) [1, 0] rfl ?_
      exact t_X11_bounds_b51 h
    · replace h := b_wp_f c4 h
      refine v_iload_n (f := 2) 3 rfl dX11_bounds_19 ?_
      refine v_bipush ⟨by decide, by decide⟩ (by decide) dX11_bounds_20 ?_
      refine v_icmp_gt (tgt := 51) dX11_bounds_22 (by decide) (fun c5 => ?_) (fun c5 => ?_)
      · replace h := b_wp_t c5 h
        refine v_sub (ls2 := [(0, bR _), (4, bI _)]) [1, 0] rfl ?_
        exact t_X11_bounds_b51 h
      · replace h := b_wp_f c5 h
        refine v_iload_n (f := 3) 4 rfl dX11_bounds_25 ?_
        refine v_if_lt (tgt := 51) dX11_bounds_26 (by decide) (fun c6 => ?_) (fun c6 => ?_)
        · replace h := b_wp_t c6 h
          refine v_sub (ls2 := [(0, bR _), (4, bI _)]) [1, 0] rfl ?_
          exact t_X11_bounds_b51 h
        · replace h := b_wp_f c6 h
          refine v_iload_n (f := 3) 4 rfl dX11_bounds_29 ?_
          refine v_bipush ⟨by decide, by decide⟩ (by decide) dX11_bounds_30 ?_
          refine v_icmp_gt (tgt := 51) dX11_bounds_32 (by decide) (fun c7 => ?_) (fun c7 => ?_)
          · replace h := b_wp_t c7 h
            refine v_sub (ls2 := [(0, bR _), (4, bI _)]) [1, 0] rfl ?_
            exact t_X11_bounds_b51 h
          · replace h := b_wp_f c7 h
            refine v_aload_n (f := 0) 1 rfl dX11_bounds_35 ?_
            refine v_getR (kf := 2) (kz := 2) rfl kd_0 rfl ⟨by decide, by decide⟩ rfl wf_11_26 dX11_bounds_36 ?_
            refine v_aload_n (f := 0) 1 rfl dX11_bounds_39 ?_
            refine v_getR (kf := 0) (kz := 0) rfl kd_0 rfl ⟨by decide, by decide⟩ rfl wf_11_10 dX11_bounds_40 ?_
            refine v_iload_n (f := 1) 2 rfl dX11_bounds_43 ?_
            refine v_iload_n (f := 2) 3 rfl dX11_bounds_44 ?_
            refine v_iload_n (f := 3) 4 rfl dX11_bounds_45 ?_
            refine v_cVI (nA := 4) (As := [bR _, bI _, bI _, bI _]) (ix := 178) (cf_X5_readBounds_1 (b_wp_b h)) rfl kd_3 rfl rfl wc_X5_readBounds wm_11_178 wi_X5_readBounds ws_X5_readBounds wn_5 ⟨by decide, by decide, by decide⟩ rfl ⟨by decide, by decide⟩ ⟨by decide, by decide⟩ (Nat.le_of_ble_eq_true rfl) dX11_bounds_46 (fun x8 M9 h => ?_)
            replace h := b_wp_two h
            refine v_istore (i := 4) (ls' := [(4, bI _), (0, bR _), (1, bI _), (2, bI _), (3, bI _)]) (by decide) dX11_bounds_49 rfl ?_
            refine v_sub (ls2 := [(0, bR _), (4, bI _)]) [1, 0] rfl ?_
            exact t_X11_bounds_b51 h
theorem cf_X11_bounds {l : Launch} {E : bE} {M : bM} {v1 : Int} {v2 : Int} {v3 : Int} {Q : (Int × bM) → Prop} (h : b_wp (F_X11_bounds v1 v2 v3 M) Q) : b_C l E xX11_bounds yX11_bounds [bR 0, bI v1, bI v2, bI v3] M (b_pI Q) := b_met (by decide) ⟨rfl, rfl⟩ (Nat.le_of_ble_eq_true rfl) (fun _ _ => t_X11_bounds h)
abbrev xX11_withoutBounds : bX := ("BurntHall", prog_1_method_24_code, 2, (Option.some Jvm.ClassFile.FieldType.int), b_rm 2 0 0, 0, "withoutBounds")
abbrev yX11_withoutBounds : MethodName := ⟨"BurntHall", "withoutBounds", "(I)I"⟩
theorem dX11_withoutBounds_0 : decode prog_1_method_24_code 0 = .ok (.aload_n 0, 1) := by decide +kernel
theorem dX11_withoutBounds_1 : decode prog_1_method_24_code 1 = .ok (.getfield 26, 3) := by decide +kernel
theorem dX11_withoutBounds_4 : decode prog_1_method_24_code 4 = .ok (.iload_n 1, 1) := by decide +kernel
theorem dX11_withoutBounds_5 : decode prog_1_method_24_code 5 = .ok (.invokevirtual 146, 3) := by decide +kernel
theorem dX11_withoutBounds_8 : decode prog_1_method_24_code 8 = .ok (.ifCond .ne 6, 3) := by decide +kernel
theorem dX11_withoutBounds_11 : decode prog_1_method_24_code 11 = .ok (.bipush (-2), 2) := by decide +kernel
theorem dX11_withoutBounds_13 : decode prog_1_method_24_code 13 = .ok (.ireturn, 1) := by decide +kernel
theorem dX11_withoutBounds_14 : decode prog_1_method_24_code 14 = .ok (.aload_n 0, 1) := by decide +kernel
theorem dX11_withoutBounds_15 : decode prog_1_method_24_code 15 = .ok (.getfield 26, 3) := by decide +kernel
theorem dX11_withoutBounds_18 : decode prog_1_method_24_code 18 = .ok (.getfield 205, 3) := by decide +kernel
theorem dX11_withoutBounds_21 : decode prog_1_method_24_code 21 = .ok (.iload_n 1, 1) := by decide +kernel
theorem dX11_withoutBounds_22 : decode prog_1_method_24_code 22 = .ok (.iaload, 1) := by decide +kernel
theorem dX11_withoutBounds_23 : decode prog_1_method_24_code 23 = .ok (.ifCond .ne 8, 3) := by decide +kernel
theorem dX11_withoutBounds_26 : decode prog_1_method_24_code 26 = .ok (.bipush (-4), 2) := by decide +kernel
theorem dX11_withoutBounds_28 : decode prog_1_method_24_code 28 = .ok (.goto 4, 3) := by decide +kernel
theorem dX11_withoutBounds_31 : decode prog_1_method_24_code 31 = .ok (.iconst 0, 1) := by decide +kernel
theorem dX11_withoutBounds_32 : decode prog_1_method_24_code 32 = .ok (.ireturn, 1) := by decide +kernel
noncomputable def F_X11_withoutBounds (v1 : Int) (M : bM) : Option (Int) :=
  b_bind (F_X5_has v1 M) (fun x1 => if x1 = 0 then (some (-2)) else (b_g (0 ≤ v1 ∧ v1 < 60) (if (M 94 v1) = 0 then (some (-4)) else (some 0))))
theorem t_X11_withoutBounds {l : Launch} {E : bE} {Q : Int → Prop} {v1 : Int} {M : bM} (h : b_wp (F_X11_withoutBounds v1 M) (Q)) : V l E xX11_withoutBounds (0, 0) 0 [(0, bR 0), (1, bI v1)] [] M (b_pIp M Q) := by
  unfold F_X11_withoutBounds at h
  refine v_aload_n (f := 0) 0 rfl dX11_withoutBounds_0 ?_
  refine v_getR (kf := 2) (kz := 2) rfl kd_0 rfl ⟨by decide, by decide⟩ rfl wf_11_26 dX11_withoutBounds_1 ?_
  refine v_iload_n (f := 1) 1 rfl dX11_withoutBounds_4 ?_
  refine v_cVIp (nA := 1) (As := [bI _]) (ix := 146) (cf_X5_has (b_wp_b h)) rfl kd_3 rfl rfl wc_X5_has wm_11_146 wi_X5_has ws_X5_has wn_5 ⟨by decide, by decide, by decide⟩ rfl ⟨by decide, by decide⟩ ⟨by decide, by decide⟩ (Nat.le_of_ble_eq_true rfl) dX11_withoutBounds_5 (fun x1 h => ?_)
  refine v_if_ne (tgt := 14) dX11_withoutBounds_8 (by decide) (fun c2 => ?_) (fun c2 => ?_)
  · replace h := b_wp_f c2 h
    obtain ⟨g3, h⟩ := b_wp_g h
    refine v_aload_n (f := 0) 0 rfl dX11_withoutBounds_14 ?_
    refine v_getR (kf := 2) (kz := 2) rfl kd_0 rfl ⟨by decide, by decide⟩ rfl wf_11_26 dX11_withoutBounds_15 ?_
    refine v_getR (kf := 10) (kz := 10) rfl kd_3 rfl ⟨by decide, by decide⟩ rfl wf_11_205 dX11_withoutBounds_18 ?_
    refine v_iload_n (f := 1) 1 rfl dX11_withoutBounds_21 ?_
    refine v_iaload kd_94 g3 (by decide) dX11_withoutBounds_22 ?_
    refine v_if_ne (tgt := 31) dX11_withoutBounds_23 (by decide) (fun c4 => ?_) (fun c4 => ?_)
    · replace h := b_wp_f c4 h
      refine v_iconst ⟨by decide, by decide⟩ dX11_withoutBounds_31 ?_
      refine v_ireturn rfl dX11_withoutBounds_32 ⟨by decide, by decide⟩ ?_
      exact ⟨_, rfl, rfl, h⟩
    · replace h := b_wp_t c4 h
      refine v_bipush ⟨by decide, by decide⟩ (by decide) dX11_withoutBounds_26 ?_
      refine v_goto (tgt := 32) dX11_withoutBounds_28 (by decide) ?_
      refine v_ireturn rfl dX11_withoutBounds_32 ⟨by decide, by decide⟩ ?_
      exact ⟨_, rfl, rfl, h⟩
  · replace h := b_wp_t c2 h
    refine v_bipush ⟨by decide, by decide⟩ (by decide) dX11_withoutBounds_11 ?_
    refine v_ireturn rfl dX11_withoutBounds_13 ⟨by decide, by decide⟩ ?_
    exact ⟨_, rfl, rfl, h⟩
theorem cf_X11_withoutBounds {l : Launch} {E : bE} {M : bM} {v1 : Int} {Q : Int → Prop} (h : b_wp (F_X11_withoutBounds v1 M) Q) : b_C l E xX11_withoutBounds yX11_withoutBounds [bR 0, bI v1] M (b_pIp M Q) := b_met (by decide) ⟨rfl, rfl⟩ (Nat.le_of_ble_eq_true rfl) (fun _ _ => t_X11_withoutBounds h)
abbrev xX5_wayOf : bX := ("BurntHall$Lots", prog_7_method_20_code, 3, (Option.some Jvm.ClassFile.FieldType.int), b_rm 1 0 0, 0, "wayOf")
abbrev yX5_wayOf : MethodName := ⟨"BurntHall$Lots", "wayOf", "(II)I"⟩
theorem dX5_wayOf_0 : decode prog_7_method_20_code 0 = .ok (.aload_n 0, 1) := by decide +kernel
theorem dX5_wayOf_1 : decode prog_7_method_20_code 1 = .ok (.getfield 57, 3) := by decide +kernel
theorem dX5_wayOf_4 : decode prog_7_method_20_code 4 = .ok (.iload_n 1, 1) := by decide +kernel
theorem dX5_wayOf_5 : decode prog_7_method_20_code 5 = .ok (.bipush 12, 2) := by decide +kernel
theorem dX5_wayOf_7 : decode prog_7_method_20_code 7 = .ok (.imul, 1) := by decide +kernel
theorem dX5_wayOf_8 : decode prog_7_method_20_code 8 = .ok (.iload_n 2, 1) := by decide +kernel
theorem dX5_wayOf_9 : decode prog_7_method_20_code 9 = .ok (.iadd, 1) := by decide +kernel
theorem dX5_wayOf_10 : decode prog_7_method_20_code 10 = .ok (.iaload, 1) := by decide +kernel
theorem dX5_wayOf_11 : decode prog_7_method_20_code 11 = .ok (.ldc 142, 2) := by decide +kernel
theorem dX5_wayOf_13 : decode prog_7_method_20_code 13 = .ok (.idiv, 1) := by decide +kernel
theorem dX5_wayOf_14 : decode prog_7_method_20_code 14 = .ok (.ireturn, 1) := by decide +kernel
noncomputable def F_X5_wayOf (v1 : Int) (v2 : Int) (M : bM) : Option (Int) :=
  b_g ((b_i32 (v1 * 12)) ∧ (b_i32 ((v1 * 12) + v2)) ∧ (0 ≤ ((v1 * 12) + v2) ∧ ((v1 * 12) + v2) < 720)) (some (i_div (M 97 ((v1 * 12) + v2)) 100000))
theorem t_X5_wayOf {l : Launch} {E : bE} {Q : Int → Prop} {v1 : Int} {v2 : Int} {M : bM} (h : b_wp (F_X5_wayOf v1 v2 M) (Q)) : V l E xX5_wayOf (0, 0) 0 [(0, bR 3), (1, bI v1), (2, bI v2)] [] M (b_pIp M Q) := by
  unfold F_X5_wayOf at h
  obtain ⟨⟨g1, g2, g3⟩, h⟩ := b_wp_g h
  refine v_aload_n (f := 0) 0 rfl dX5_wayOf_0 ?_
  refine v_getR (kf := 13) (kz := 13) rfl kd_3 rfl ⟨by decide, by decide⟩ rfl wf_5_57 dX5_wayOf_1 ?_
  refine v_iload_n (f := 1) 1 rfl dX5_wayOf_4 ?_
  refine v_bipush ⟨by decide, by decide⟩ (by decide) dX5_wayOf_5 ?_
  refine v_imulN g1 dX5_wayOf_7 ?_
  refine v_iload_n (f := 2) 2 rfl dX5_wayOf_8 ?_
  refine v_iaddN g2 dX5_wayOf_9 ?_
  refine v_iaload kd_97 g3 (by decide) dX5_wayOf_10 ?_
  refine v_ldc (n := 100000) ⟨by decide, by decide⟩ wk_5_142 dX5_wayOf_11 ?_
  refine v_idiv (v := i_div _ _) (by decide) rfl dX5_wayOf_13 ?_
  refine v_ireturn rfl dX5_wayOf_14 ⟨by decide, by decide⟩ ?_
  exact ⟨_, rfl, rfl, h⟩
theorem cf_X5_wayOf {l : Launch} {E : bE} {M : bM} {v1 : Int} {v2 : Int} {Q : Int → Prop} (h : b_wp (F_X5_wayOf v1 v2 M) Q) : b_C l E xX5_wayOf yX5_wayOf [bR 3, bI v1, bI v2] M (b_pIp M Q) := b_met (by decide) ⟨rfl, rfl⟩ (Nat.le_of_ble_eq_true rfl) (fun _ _ => t_X5_wayOf h)
abbrev xX5_feetOf : bX := ("BurntHall$Lots", prog_7_method_21_code, 3, (Option.some Jvm.ClassFile.FieldType.int), b_rm 1 0 0, 0, "feetOf")
abbrev yX5_feetOf : MethodName := ⟨"BurntHall$Lots", "feetOf", "(II)I"⟩
theorem dX5_feetOf_0 : decode prog_7_method_21_code 0 = .ok (.aload_n 0, 1) := by decide +kernel
theorem dX5_feetOf_1 : decode prog_7_method_21_code 1 = .ok (.getfield 57, 3) := by decide +kernel
theorem dX5_feetOf_4 : decode prog_7_method_21_code 4 = .ok (.iload_n 1, 1) := by decide +kernel
theorem dX5_feetOf_5 : decode prog_7_method_21_code 5 = .ok (.bipush 12, 2) := by decide +kernel
theorem dX5_feetOf_7 : decode prog_7_method_21_code 7 = .ok (.imul, 1) := by decide +kernel
theorem dX5_feetOf_8 : decode prog_7_method_21_code 8 = .ok (.iload_n 2, 1) := by decide +kernel
theorem dX5_feetOf_9 : decode prog_7_method_21_code 9 = .ok (.iadd, 1) := by decide +kernel
theorem dX5_feetOf_10 : decode prog_7_method_21_code 10 = .ok (.iaload, 1) := by decide +kernel
theorem dX5_feetOf_11 : decode prog_7_method_21_code 11 = .ok (.ldc 142, 2) := by decide +kernel
theorem dX5_feetOf_13 : decode prog_7_method_21_code 13 = .ok (.irem, 1) := by decide +kernel
theorem dX5_feetOf_14 : decode prog_7_method_21_code 14 = .ok (.ireturn, 1) := by decide +kernel
noncomputable def F_X5_feetOf (v1 : Int) (v2 : Int) (M : bM) : Option (Int) :=
  b_g ((b_i32 (v1 * 12)) ∧ (b_i32 ((v1 * 12) + v2)) ∧ (0 ≤ ((v1 * 12) + v2) ∧ ((v1 * 12) + v2) < 720)) (some (i_rem (M 97 ((v1 * 12) + v2)) 100000))
theorem t_X5_feetOf {l : Launch} {E : bE} {Q : Int → Prop} {v1 : Int} {v2 : Int} {M : bM} (h : b_wp (F_X5_feetOf v1 v2 M) (Q)) : V l E xX5_feetOf (0, 0) 0 [(0, bR 3), (1, bI v1), (2, bI v2)] [] M (b_pIp M Q) := by
  unfold F_X5_feetOf at h
  obtain ⟨⟨g1, g2, g3⟩, h⟩ := b_wp_g h
  refine v_aload_n (f := 0) 0 rfl dX5_feetOf_0 ?_
  refine v_getR (kf := 13) (kz := 13) rfl kd_3 rfl ⟨by decide, by decide⟩ rfl wf_5_57 dX5_feetOf_1 ?_
  refine v_iload_n (f := 1) 1 rfl dX5_feetOf_4 ?_
  refine v_bipush ⟨by decide, by decide⟩ (by decide) dX5_feetOf_5 ?_
  refine v_imulN g1 dX5_feetOf_7 ?_
  refine v_iload_n (f := 2) 2 rfl dX5_feetOf_8 ?_
  refine v_iaddN g2 dX5_feetOf_9 ?_
  refine v_iaload kd_97 g3 (by decide) dX5_feetOf_10 ?_
  refine v_ldc (n := 100000) ⟨by decide, by decide⟩ wk_5_142 dX5_feetOf_11 ?_
  refine v_irem (v := i_rem _ _) (by decide) rfl dX5_feetOf_13 ?_
  refine v_ireturn rfl dX5_feetOf_14 ⟨by decide, by decide⟩ ?_
  exact ⟨_, rfl, rfl, h⟩
theorem cf_X5_feetOf {l : Launch} {E : bE} {M : bM} {v1 : Int} {v2 : Int} {Q : Int → Prop} (h : b_wp (F_X5_feetOf v1 v2 M) Q) : b_C l E xX5_feetOf yX5_feetOf [bR 3, bI v1, bI v2] M (b_pIp M Q) := b_met (by decide) ⟨rfl, rfl⟩ (Nat.le_of_ble_eq_true rfl) (fun _ _ => t_X5_feetOf h)
abbrev xX5_sumOfWay : bX := ("BurntHall$Lots", prog_7_method_22_code, 5, (Option.some Jvm.ClassFile.FieldType.int), b_rm 2 0 0, 0, "sumOfWay")
abbrev yX5_sumOfWay : MethodName := ⟨"BurntHall$Lots", "sumOfWay", "(II)I"⟩
theorem dX5_sumOfWay_0 : decode prog_7_method_22_code 0 = .ok (.iconst 0, 1) := by decide +kernel
theorem dX5_sumOfWay_1 : decode prog_7_method_22_code 1 = .ok (.istore_n 3, 1) := by decide +kernel
theorem dX5_sumOfWay_2 : decode prog_7_method_22_code 2 = .ok (.iconst 0, 1) := by decide +kernel
theorem dX5_sumOfWay_3 : decode prog_7_method_22_code 3 = .ok (.istore 4, 2) := by decide +kernel
theorem dX5_sumOfWay_5 : decode prog_7_method_22_code 5 = .ok (.iload 4, 2) := by decide +kernel
theorem dX5_sumOfWay_7 : decode prog_7_method_22_code 7 = .ok (.aload_n 0, 1) := by decide +kernel
theorem dX5_sumOfWay_8 : decode prog_7_method_22_code 8 = .ok (.getfield 48, 3) := by decide +kernel
theorem dX5_sumOfWay_11 : decode prog_7_method_22_code 11 = .ok (.iload_n 1, 1) := by decide +kernel
theorem dX5_sumOfWay_12 : decode prog_7_method_22_code 12 = .ok (.iaload, 1) := by decide +kernel
theorem dX5_sumOfWay_13 : decode prog_7_method_22_code 13 = .ok (.if_icmp .ge 30, 3) := by decide +kernel
theorem dX5_sumOfWay_16 : decode prog_7_method_22_code 16 = .ok (.aload_n 0, 1) := by decide +kernel
theorem dX5_sumOfWay_17 : decode prog_7_method_22_code 17 = .ok (.iload_n 1, 1) := by decide +kernel
theorem dX5_sumOfWay_18 : decode prog_7_method_22_code 18 = .ok (.iload 4, 2) := by decide +kernel
theorem dX5_sumOfWay_20 : decode prog_7_method_22_code 20 = .ok (.invokevirtual 147, 3) := by decide +kernel
theorem dX5_sumOfWay_23 : decode prog_7_method_22_code 23 = .ok (.iload_n 2, 1) := by decide +kernel
theorem dX5_sumOfWay_24 : decode prog_7_method_22_code 24 = .ok (.if_icmp .ne 13, 3) := by decide +kernel
theorem dX5_sumOfWay_27 : decode prog_7_method_22_code 27 = .ok (.iload_n 3, 1) := by decide +kernel
theorem dX5_sumOfWay_28 : decode prog_7_method_22_code 28 = .ok (.aload_n 0, 1) := by decide +kernel
theorem dX5_sumOfWay_29 : decode prog_7_method_22_code 29 = .ok (.iload_n 1, 1) := by decide +kernel
theorem dX5_sumOfWay_30 : decode prog_7_method_22_code 30 = .ok (.iload 4, 2) := by decide +kernel
theorem dX5_sumOfWay_32 : decode prog_7_method_22_code 32 = .ok (.invokevirtual 150, 3) := by decide +kernel
theorem dX5_sumOfWay_35 : decode prog_7_method_22_code 35 = .ok (.iadd, 1) := by decide +kernel
theorem dX5_sumOfWay_36 : decode prog_7_method_22_code 36 = .ok (.istore_n 3, 1) := by decide +kernel
theorem dX5_sumOfWay_37 : decode prog_7_method_22_code 37 = .ok (.iinc 4 1, 3) := by decide +kernel
theorem dX5_sumOfWay_40 : decode prog_7_method_22_code 40 = .ok (.goto (-35), 3) := by decide +kernel
theorem dX5_sumOfWay_43 : decode prog_7_method_22_code 43 = .ok (.iload_n 3, 1) := by decide +kernel
theorem dX5_sumOfWay_44 : decode prog_7_method_22_code 44 = .ok (.ireturn, 1) := by decide +kernel
abbrev A_X5_sumOfWay_5 (l : Launch) (E : bE) (Q : Int → Prop) (v1 : Int) (v2 : Int) (M : bM) : (Int × Int) → Prop := (fun t : Int × Int => V l E xX5_sumOfWay (0, 0) 5 [(0, bR 3), (1, bI v1), (2, bI v2), (3, bI (t.1)), (4, bI (t.2))] [] M (b_pIp M Q))
abbrev X_X5_sumOfWay_5 (l : Launch) (E : bE) (Q : Int → Prop) (v1 : Int) (v2 : Int) (M : bM) : (Int) → Prop := (fun t : Int => V l E xX5_sumOfWay (0, 0) 43 [(3, bI t)] [] M (b_pIp M Q))
noncomputable def F_X5_sumOfWay_s5 (v1 : Int) (v2 : Int) (v3 : Int) (v4 : Int) (M : bM) : Option ((Int × Int) ⊕ (Int)) :=
  b_g (0 ≤ v1 ∧ v1 < 60) (if (M 94 v1) ≤ v4 then (some (.inr (v3))) else (b_bind (F_X5_wayOf v1 v4 M) (fun x3 => if x3 = v2 then (b_bind (F_X5_feetOf v1 v4 M) (fun x6 => b_g ((b_i32 (v3 + x6)) ∧ (b_i32 (v4 + 1))) (some (.inl ((v3 + x6), (v4 + 1)))))) else (b_g (b_i32 (v4 + 1)) (some (.inl (v3, (v4 + 1))))))))
theorem t_X5_sumOfWay_s5 {l : Launch} {E : bE} {Q : Int → Prop} {v1 : Int} {v2 : Int} {v3 : Int} {v4 : Int} {M : bM} (h : b_wp (F_X5_sumOfWay_s5 v1 v2 v3 v4 M) (Sum.elim (A_X5_sumOfWay_5 l E Q v1 v2 M) (X_X5_sumOfWay_5 l E Q v1 v2 M))) : V l E xX5_sumOfWay (0, 0) 5 [(0, bR 3), (1, bI v1), (2, bI v2), (3, bI v3), (4, bI v4)] [] M (b_pIp M Q) := by
  unfold F_X5_sumOfWay_s5 at h
  obtain ⟨g1, h⟩ := b_wp_g h
  refine v_iload (i := 4) 4 rfl dX5_sumOfWay_5 ?_
  refine v_aload_n (f := 0) 0 rfl dX5_sumOfWay_7 ?_
  refine v_getR (kf := 10) (kz := 10) rfl kd_3 rfl ⟨by decide, by decide⟩ rfl wf_5_48 dX5_sumOfWay_8 ?_
  refine v_iload_n (f := 1) 1 rfl dX5_sumOfWay_11 ?_
  refine v_iaload kd_94 g1 (by decide) dX5_sumOfWay_12 ?_
  refine v_icmp_ge (tgt := 43) dX5_sumOfWay_13 (by decide) (fun c2 => ?_) (fun c2 => ?_)
  · replace h := b_wp_t c2 h
    refine v_sub (ls2 := [(3, bI _)]) [3] rfl ?_
    exact h
  · replace h := b_wp_f c2 h
    refine v_aload_n (f := 0) 0 rfl dX5_sumOfWay_16 ?_
    refine v_iload_n (f := 1) 1 rfl dX5_sumOfWay_17 ?_
    refine v_iload (i := 4) 4 rfl dX5_sumOfWay_18 ?_
    refine v_cVIp (nA := 2) (As := [bI _, bI _]) (ix := 147) (cf_X5_wayOf (b_wp_b h)) rfl kd_3 rfl rfl wc_X5_wayOf wm_5_147 wi_X5_wayOf ws_X5_wayOf wn_5 ⟨by decide, by decide, by decide⟩ rfl ⟨by decide, by decide⟩ ⟨by decide, by decide⟩ (Nat.le_of_ble_eq_true rfl) dX5_sumOfWay_20 (fun x3 h => ?_)
    refine v_iload_n (f := 2) 2 rfl dX5_sumOfWay_23 ?_
    refine v_icmp_ne (tgt := 37) dX5_sumOfWay_24 (by decide) (fun c4 => ?_) (fun c4 => ?_)
    · replace h := b_wp_f c4 h
      obtain ⟨g5, h⟩ := b_wp_g h
      refine v_iincN (ls' := [(4, bI _), (0, bR _), (1, bI _), (2, bI _), (3, bI _)]) 4 rfl (by decide) g5 dX5_sumOfWay_37 rfl ?_
      refine v_goto (tgt := 5) dX5_sumOfWay_40 (by decide) ?_
      refine v_sub (ls2 := [(0, bR _), (1, bI _), (2, bI _), (3, bI _), (4, bI _)]) [1, 2, 3, 4, 0] rfl ?_
      exact h
    · replace h := b_wp_t c4 h
      refine v_iload_n (f := 3) 3 rfl dX5_sumOfWay_27 ?_
      refine v_aload_n (f := 0) 0 rfl dX5_sumOfWay_28 ?_
      refine v_iload_n (f := 1) 1 rfl dX5_sumOfWay_29 ?_
      refine v_iload (i := 4) 4 rfl dX5_sumOfWay_30 ?_
      refine v_cVIp (nA := 2) (As := [bI _, bI _]) (ix := 150) (cf_X5_feetOf (b_wp_b h)) rfl kd_3 rfl rfl wc_X5_feetOf wm_5_150 wi_X5_feetOf ws_X5_feetOf wn_5 ⟨by decide, by decide, by decide⟩ rfl ⟨by decide, by decide⟩ ⟨by decide, by decide⟩ (Nat.le_of_ble_eq_true rfl) dX5_sumOfWay_32 (fun x6 h => ?_)
      obtain ⟨⟨g7, g8⟩, h⟩ := b_wp_g h
      refine v_iaddN g7 dX5_sumOfWay_35 ?_
      refine v_istore_n (g := 3) (i := 3) (ls' := [(3, bI _), (0, bR _), (1, bI _), (2, bI _), (4, bI _)]) rfl (by decide) dX5_sumOfWay_36 rfl ?_
      refine v_iincN (ls' := [(4, bI _), (3, bI _), (0, bR _), (1, bI _), (2, bI _)]) 4 rfl (by decide) g8 dX5_sumOfWay_37 rfl ?_
      refine v_goto (tgt := 5) dX5_sumOfWay_40 (by decide) ?_
      refine v_sub (ls2 := [(0, bR _), (1, bI _), (2, bI _), (3, bI _), (4, bI _)]) [2, 3, 4, 1, 0] rfl ?_
      exact h
theorem l_X5_sumOfWay_5 {l : Launch} {E : bE} {Q : Int → Prop} {v1 : Int} {v2 : Int} {M : bM} {s : Int × Int} (h : b_wp (b_loop (fun t => F_X5_sumOfWay_s5 v1 v2 t.1 t.2 M) s) (X_X5_sumOfWay_5 l E Q v1 v2 M)) : A_X5_sumOfWay_5 l E Q v1 v2 M s := b_loop_wp (fun t h => t_X5_sumOfWay_s5 h) s h
noncomputable def F_X5_sumOfWay_b43 (v3 : Int) (M : bM) : Option (Int) :=
  some v3
theorem t_X5_sumOfWay_b43 {l : Launch} {E : bE} {Q : Int → Prop} {v3 : Int} {M : bM} (h : b_wp (F_X5_sumOfWay_b43 v3 M) (Q)) : V l E xX5_sumOfWay (0, 0) 43 [(3, bI v3)] [] M (b_pIp M Q) := by
  unfold F_X5_sumOfWay_b43 at h
  refine v_iload_n (f := 3) 0 rfl dX5_sumOfWay_43 ?_
  refine v_ireturn rfl dX5_sumOfWay_44 ⟨by decide, by decide⟩ ?_
  exact ⟨_, rfl, rfl, h⟩
noncomputable def F_X5_sumOfWay (v1 : Int) (v2 : Int) (M : bM) : Option (Int) :=
  b_bind (b_loop (fun t => F_X5_sumOfWay_s5 v1 v2 t.1 t.2 M) (0, 0)) (fun t => F_X5_sumOfWay_b43 t M)
theorem t_X5_sumOfWay {l : Launch} {E : bE} {Q : Int → Prop} {v1 : Int} {v2 : Int} {M : bM} (h : b_wp (F_X5_sumOfWay v1 v2 M) (Q)) : V l E xX5_sumOfWay (0, 0) 0 [(0, bR 3), (1, bI v1), (2, bI v2)] [] M (b_pIp M Q) := by
  unfold F_X5_sumOfWay at h
  refine v_iconst ⟨by decide, by decide⟩ dX5_sumOfWay_0 ?_
  refine v_istore_n (g := 3) (i := 3) (ls' := [(3, bI _), (0, bR _), (1, bI _), (2, bI _)]) rfl (by decide) dX5_sumOfWay_1 rfl ?_
  refine v_iconst ⟨by decide, by decide⟩ dX5_sumOfWay_2 ?_
  refine v_istore (i := 4) (ls' := [(4, bI _), (3, bI _), (0, bR _), (1, bI _), (2, bI _)]) (by decide) dX5_sumOfWay_3 rfl ?_
  refine v_sub (ls2 := [(0, bR _), (1, bI _), (2, bI _), (3, bI _), (4, bI _)]) [2, 3, 4, 1, 0] rfl ?_
  refine l_X5_sumOfWay_5 (b_wp_m (fun t h => ?_) (b_wp_b h))
  show V l E xX5_sumOfWay (0, 0) 43 [(3, bI _)] [] _ (b_pIp M Q)
  exact t_X5_sumOfWay_b43 h
theorem cf_X5_sumOfWay {l : Launch} {E : bE} {M : bM} {v1 : Int} {v2 : Int} {Q : Int → Prop} (h : b_wp (F_X5_sumOfWay v1 v2 M) Q) : b_C l E xX5_sumOfWay yX5_sumOfWay [bR 3, bI v1, bI v2] M (b_pIp M Q) := b_met (by decide) ⟨rfl, rfl⟩ (Nat.le_of_ble_eq_true rfl) (fun _ _ => t_X5_sumOfWay h)
abbrev xX5_miss : bX := ("BurntHall$Lots", prog_7_method_23_code, 3, (Option.some Jvm.ClassFile.FieldType.int), b_rm 3 0 0, 0, "miss")
abbrev yX5_miss : MethodName := ⟨"BurntHall$Lots", "miss", "(II)I"⟩
theorem dX5_miss_0 : decode prog_7_method_23_code 0 = .ok (.aload_n 0, 1) := by decide +kernel
theorem dX5_miss_1 : decode prog_7_method_23_code 1 = .ok (.iload_n 1, 1) := by decide +kernel
theorem dX5_miss_2 : decode prog_7_method_23_code 2 = .ok (.iload_n 2, 1) := by decide +kernel
theorem dX5_miss_3 : decode prog_7_method_23_code 3 = .ok (.invokevirtual 153, 3) := by decide +kernel
theorem dX5_miss_6 : decode prog_7_method_23_code 6 = .ok (.aload_n 0, 1) := by decide +kernel
theorem dX5_miss_7 : decode prog_7_method_23_code 7 = .ok (.iload_n 1, 1) := by decide +kernel
theorem dX5_miss_8 : decode prog_7_method_23_code 8 = .ok (.iload_n 2, 1) := by decide +kernel
theorem dX5_miss_9 : decode prog_7_method_23_code 9 = .ok (.iconst 2, 1) := by decide +kernel
theorem dX5_miss_10 : decode prog_7_method_23_code 10 = .ok (.iadd, 1) := by decide +kernel
theorem dX5_miss_11 : decode prog_7_method_23_code 11 = .ok (.invokevirtual 153, 3) := by decide +kernel
theorem dX5_miss_14 : decode prog_7_method_23_code 14 = .ok (.isub, 1) := by decide +kernel
theorem dX5_miss_15 : decode prog_7_method_23_code 15 = .ok (.ireturn, 1) := by decide +kernel
noncomputable def F_X5_miss (v1 : Int) (v2 : Int) (M : bM) : Option (Int) :=
  b_bind (F_X5_sumOfWay v1 v2 M) (fun x1 => b_g (b_i32 (v2 + 2)) (b_bind (F_X5_sumOfWay v1 (v2 + 2) M) (fun x3 => b_g (b_i32 (x1 - x3)) (some (x1 - x3)))))
theorem t_X5_miss {l : Launch} {E : bE} {Q : Int → Prop} {v1 : Int} {v2 : Int} {M : bM} (h : b_wp (F_X5_miss v1 v2 M) (Q)) : V l E xX5_miss (0, 0) 0 [(0, bR 3), (1, bI v1), (2, bI v2)] [] M (b_pIp M Q) := by
  unfold F_X5_miss at h
  refine v_aload_n (f := 0) 0 rfl dX5_miss_0 ?_
  refine v_iload_n (f := 1) 1 rfl dX5_miss_1 ?_
  refine v_iload_n (f := 2) 2 rfl dX5_miss_2 ?_
  refine v_cVIp (nA := 2) (As := [bI _, bI _]) (ix := 153) (cf_X5_sumOfWay (b_wp_b h)) rfl kd_3 rfl rfl wc_X5_sumOfWay wm_5_153 wi_X5_sumOfWay ws_X5_sumOfWay wn_5 ⟨by decide, by decide, by decide⟩ rfl ⟨by decide, by decide⟩ ⟨by decide, by decide⟩ (Nat.le_of_ble_eq_true rfl) dX5_miss_3 (fun x1 h => ?_)
  obtain ⟨g2, h⟩ := b_wp_g h
  refine v_aload_n (f := 0) 0 rfl dX5_miss_6 ?_
  refine v_iload_n (f := 1) 1 rfl dX5_miss_7 ?_
  refine v_iload_n (f := 2) 2 rfl dX5_miss_8 ?_
  refine v_iconst ⟨by decide, by decide⟩ dX5_miss_9 ?_
  refine v_iaddN g2 dX5_miss_10 ?_
  refine v_cVIp (nA := 2) (As := [bI _, bI _]) (ix := 153) (cf_X5_sumOfWay (b_wp_b h)) rfl kd_3 rfl rfl wc_X5_sumOfWay wm_5_153 wi_X5_sumOfWay ws_X5_sumOfWay wn_5 ⟨by decide, by decide, by decide⟩ rfl ⟨by decide, by decide⟩ ⟨by decide, by decide⟩ (Nat.le_of_ble_eq_true rfl) dX5_miss_11 (fun x3 h => ?_)
  obtain ⟨g4, h⟩ := b_wp_g h
  refine v_isubN g4 dX5_miss_14 ?_
  refine v_ireturn rfl dX5_miss_15 ⟨by decide, by decide⟩ ?_
  exact ⟨_, rfl, rfl, h⟩
theorem cf_X5_miss {l : Launch} {E : bE} {M : bM} {v1 : Int} {v2 : Int} {Q : Int → Prop} (h : b_wp (F_X5_miss v1 v2 M) Q) : b_C l E xX5_miss yX5_miss [bR 3, bI v1, bI v2] M (b_pIp M Q) := b_met (by decide) ⟨rfl, rfl⟩ (Nat.le_of_ble_eq_true rfl) (fun _ _ => t_X5_miss h)
abbrev xX11_error : bX := ("BurntHall", prog_1_method_20_code, 3, (Option.some Jvm.ClassFile.FieldType.int), b_rm 4 0 0, 0, "error")
abbrev yX11_error : MethodName := ⟨"BurntHall", "error", "(I)I"⟩
theorem dX11_error_0 : decode prog_1_method_20_code 0 = .ok (.aload_n 0, 1) := by decide +kernel
theorem dX11_error_1 : decode prog_1_method_20_code 1 = .ok (.iload_n 1, 1) := by decide +kernel
theorem dX11_error_2 : decode prog_1_method_20_code 2 = .ok (.invokevirtual 185, 3) := by decide +kernel
theorem dX11_error_5 : decode prog_1_method_20_code 5 = .ok (.istore_n 2, 1) := by decide +kernel
theorem dX11_error_6 : decode prog_1_method_20_code 6 = .ok (.iload_n 2, 1) := by decide +kernel
theorem dX11_error_7 : decode prog_1_method_20_code 7 = .ok (.ifCond .ge 7, 3) := by decide +kernel
theorem dX11_error_10 : decode prog_1_method_20_code 10 = .ok (.iload_n 2, 1) := by decide +kernel
theorem dX11_error_11 : decode prog_1_method_20_code 11 = .ok (.goto 28, 3) := by decide +kernel
theorem dX11_error_14 : decode prog_1_method_20_code 14 = .ok (.aload_n 0, 1) := by decide +kernel
theorem dX11_error_15 : decode prog_1_method_20_code 15 = .ok (.getfield 26, 3) := by decide +kernel
theorem dX11_error_18 : decode prog_1_method_20_code 18 = .ok (.iload_n 1, 1) := by decide +kernel
theorem dX11_error_19 : decode prog_1_method_20_code 19 = .ok (.iconst 0, 1) := by decide +kernel
theorem dX11_error_20 : decode prog_1_method_20_code 20 = .ok (.invokevirtual 188, 3) := by decide +kernel
theorem dX11_error_23 : decode prog_1_method_20_code 23 = .ok (.invokestatic 191, 3) := by decide +kernel
theorem dX11_error_26 : decode prog_1_method_20_code 26 = .ok (.aload_n 0, 1) := by decide +kernel
theorem dX11_error_27 : decode prog_1_method_20_code 27 = .ok (.getfield 26, 3) := by decide +kernel
theorem dX11_error_30 : decode prog_1_method_20_code 30 = .ok (.iload_n 1, 1) := by decide +kernel
theorem dX11_error_31 : decode prog_1_method_20_code 31 = .ok (.iconst 1, 1) := by decide +kernel
theorem dX11_error_32 : decode prog_1_method_20_code 32 = .ok (.invokevirtual 188, 3) := by decide +kernel
theorem dX11_error_35 : decode prog_1_method_20_code 35 = .ok (.invokestatic 191, 3) := by decide +kernel
theorem dX11_error_38 : decode prog_1_method_20_code 38 = .ok (.iadd, 1) := by decide +kernel
theorem dX11_error_39 : decode prog_1_method_20_code 39 = .ok (.ireturn, 1) := by decide +kernel
noncomputable def F_X11_error (v1 : Int) (M : bM) : Option (Int) :=
  b_bind (F_X11_withoutBounds v1 M) (fun x1 => if 0 ≤ x1 then (b_bind (F_X5_miss v1 0 M) (fun x3 => b_g (b_i32 (-x3)) (b_bind (F_X5_miss v1 1 M) (fun x5 => b_g ((b_i32 (-x5)) ∧ (b_i32 ((max x3 (-x3)) + (max x5 (-x5))))) (some ((max x3 (-x3)) + (max x5 (-x5)))))))) else (some x1))
theorem t_X11_error {l : Launch} {E : bE} {Q : Int → Prop} {v1 : Int} {M : bM} (h : b_wp (F_X11_error v1 M) (Q)) : V l E xX11_error (0, 0) 0 [(0, bR 0), (1, bI v1)] [] M (b_pIp M Q) := by
  unfold F_X11_error at h
  refine v_aload_n (f := 0) 0 rfl dX11_error_0 ?_
  refine v_iload_n (f := 1) 1 rfl dX11_error_1 ?_
  refine v_cVIp (nA := 1) (As := [bI _]) (ix := 185) (cf_X11_withoutBounds (b_wp_b h)) rfl kd_0 rfl rfl wc_X11_withoutBounds wm_11_185 wi_X11_withoutBounds ws_X11_withoutBounds wn_11 ⟨by decide, by decide, by decide⟩ rfl ⟨by decide, by decide⟩ ⟨by decide, by decide⟩ (Nat.le_of_ble_eq_true rfl) dX11_error_2 (fun x1 h => ?_)
  refine v_istore_n (g := 2) (i := 2) (ls' := [(2, bI _), (0, bR _), (1, bI _)]) rfl (by decide) dX11_error_5 rfl ?_
  refine v_iload_n (f := 2) 0 rfl dX11_error_6 ?_
  refine v_if_ge (tgt := 14) dX11_error_7 (by decide) (fun c2 => ?_) (fun c2 => ?_)
  · replace h := b_wp_t c2 h
    refine v_aload_n (f := 0) 1 rfl dX11_error_14 ?_
    refine v_getR (kf := 2) (kz := 2) rfl kd_0 rfl ⟨by decide, by decide⟩ rfl wf_11_26 dX11_error_15 ?_
    refine v_iload_n (f := 1) 2 rfl dX11_error_18 ?_
    refine v_iconst ⟨by decide, by decide⟩ dX11_error_19 ?_
    refine v_cVIp (nA := 2) (As := [bI _, bI _]) (ix := 188) (cf_X5_miss (b_wp_b h)) rfl kd_3 rfl rfl wc_X5_miss wm_11_188 wi_X5_miss ws_X5_miss wn_5 ⟨by decide, by decide, by decide⟩ rfl ⟨by decide, by decide⟩ ⟨by decide, by decide⟩ (Nat.le_of_ble_eq_true rfl) dX11_error_20 (fun x3 h => ?_)
    obtain ⟨g4, h⟩ := b_wp_g h
    refine v_mabs g4 wm_11_191 wma_abs wmi wmc_abs ⟨by decide, by decide⟩ ⟨by decide, by decide⟩ (Nat.le_of_ble_eq_true rfl) dX11_error_23 ?_
    refine v_aload_n (f := 0) 1 rfl dX11_error_26 ?_
    refine v_getR (kf := 2) (kz := 2) rfl kd_0 rfl ⟨by decide, by decide⟩ rfl wf_11_26 dX11_error_27 ?_
    refine v_iload_n (f := 1) 2 rfl dX11_error_30 ?_
    refine v_iconst ⟨by decide, by decide⟩ dX11_error_31 ?_
    refine v_cVIp (nA := 2) (As := [bI _, bI _]) (ix := 188) (cf_X5_miss (b_wp_b h)) rfl kd_3 rfl rfl wc_X5_miss wm_11_188 wi_X5_miss ws_X5_miss wn_5 ⟨by decide, by decide, by decide⟩ rfl ⟨by decide, by decide⟩ ⟨by decide, by decide⟩ (Nat.le_of_ble_eq_true rfl) dX11_error_32 (fun x5 h => ?_)
    obtain ⟨⟨g6, g7⟩, h⟩ := b_wp_g h
    refine v_mabs g6 wm_11_191 wma_abs wmi wmc_abs ⟨by decide, by decide⟩ ⟨by decide, by decide⟩ (Nat.le_of_ble_eq_true rfl) dX11_error_35 ?_
    refine v_iaddN g7 dX11_error_38 ?_
    refine v_ireturn rfl dX11_error_39 ⟨by decide, by decide⟩ ?_
    exact ⟨_, rfl, rfl, h⟩
  · replace h := b_wp_f c2 h
    refine v_iload_n (f := 2) 0 rfl dX11_error_10 ?_
    refine v_goto (tgt := 39) dX11_error_11 (by decide) ?_
    refine v_ireturn rfl dX11_error_39 ⟨by decide, by decide⟩ ?_
    exact ⟨_, rfl, rfl, h⟩
theorem cf_X11_error {l : Launch} {E : bE} {M : bM} {v1 : Int} {Q : Int → Prop} (h : b_wp (F_X11_error v1 M) Q) : b_C l E xX11_error yX11_error [bR 0, bI v1] M (b_pIp M Q) := b_met (by decide) ⟨rfl, rfl⟩ (Nat.le_of_ble_eq_true rfl) (fun _ _ => t_X11_error h)
abbrev xX5_lineToChange : bX := ("BurntHall$Lots", prog_7_method_25_code, 9, (Option.some Jvm.ClassFile.FieldType.int), b_rm 2 0 0, 0, "lineToChange")
abbrev yX5_lineToChange : MethodName := ⟨"BurntHall$Lots", "lineToChange", "(III)I"⟩
theorem dX5_lineToChange_0 : decode prog_7_method_25_code 0 = .ok (.iload_n 3, 1) := by decide +kernel
theorem dX5_lineToChange_1 : decode prog_7_method_25_code 1 = .ok (.ifCond .le 7, 3) := by decide +kernel
theorem dX5_lineToChange_4 : decode prog_7_method_25_code 4 = .ok (.iload_n 2, 1) := by decide +kernel
theorem dX5_lineToChange_5 : decode prog_7_method_25_code 5 = .ok (.goto 6, 3) := by decide +kernel
theorem dX5_lineToChange_8 : decode prog_7_method_25_code 8 = .ok (.iload_n 2, 1) := by decide +kernel
theorem dX5_lineToChange_9 : decode prog_7_method_25_code 9 = .ok (.iconst 2, 1) := by decide +kernel
theorem dX5_lineToChange_10 : decode prog_7_method_25_code 10 = .ok (.iadd, 1) := by decide +kernel
theorem dX5_lineToChange_11 : decode prog_7_method_25_code 11 = .ok (.istore 4, 2) := by decide +kernel
theorem dX5_lineToChange_13 : decode prog_7_method_25_code 13 = .ok (.iload_n 3, 1) := by decide +kernel
theorem dX5_lineToChange_14 : decode prog_7_method_25_code 14 = .ok (.invokestatic 167, 3) := by decide +kernel
theorem dX5_lineToChange_17 : decode prog_7_method_25_code 17 = .ok (.istore 5, 2) := by decide +kernel
theorem dX5_lineToChange_19 : decode prog_7_method_25_code 19 = .ok (.iconst (-1), 1) := by decide +kernel
theorem dX5_lineToChange_20 : decode prog_7_method_25_code 20 = .ok (.istore 6, 2) := by decide +kernel
theorem dX5_lineToChange_22 : decode prog_7_method_25_code 22 = .ok (.iconst 0, 1) := by decide +kernel
theorem dX5_lineToChange_23 : decode prog_7_method_25_code 23 = .ok (.istore 7, 2) := by decide +kernel
theorem dX5_lineToChange_25 : decode prog_7_method_25_code 25 = .ok (.iload 7, 2) := by decide +kernel
theorem dX5_lineToChange_27 : decode prog_7_method_25_code 27 = .ok (.aload_n 0, 1) := by decide +kernel
theorem dX5_lineToChange_28 : decode prog_7_method_25_code 28 = .ok (.getfield 48, 3) := by decide +kernel
theorem dX5_lineToChange_31 : decode prog_7_method_25_code 31 = .ok (.iload_n 1, 1) := by decide +kernel
theorem dX5_lineToChange_32 : decode prog_7_method_25_code 32 = .ok (.iaload, 1) := by decide +kernel
theorem dX5_lineToChange_33 : decode prog_7_method_25_code 33 = .ok (.if_icmp .ge 59, 3) := by decide +kernel
theorem dX5_lineToChange_36 : decode prog_7_method_25_code 36 = .ok (.aload_n 0, 1) := by decide +kernel
theorem dX5_lineToChange_37 : decode prog_7_method_25_code 37 = .ok (.iload_n 1, 1) := by decide +kernel
theorem dX5_lineToChange_38 : decode prog_7_method_25_code 38 = .ok (.iload 7, 2) := by decide +kernel
theorem dX5_lineToChange_40 : decode prog_7_method_25_code 40 = .ok (.invokevirtual 147, 3) := by decide +kernel
theorem dX5_lineToChange_43 : decode prog_7_method_25_code 43 = .ok (.istore 8, 2) := by decide +kernel
theorem dX5_lineToChange_45 : decode prog_7_method_25_code 45 = .ok (.iload 8, 2) := by decide +kernel
theorem dX5_lineToChange_47 : decode prog_7_method_25_code 47 = .ok (.iload 4, 2) := by decide +kernel
theorem dX5_lineToChange_49 : decode prog_7_method_25_code 49 = .ok (.if_icmp .ne 18, 3) := by decide +kernel
theorem dX5_lineToChange_52 : decode prog_7_method_25_code 52 = .ok (.aload_n 0, 1) := by decide +kernel
theorem dX5_lineToChange_53 : decode prog_7_method_25_code 53 = .ok (.iload_n 1, 1) := by decide +kernel
theorem dX5_lineToChange_54 : decode prog_7_method_25_code 54 = .ok (.iload 7, 2) := by decide +kernel
theorem dX5_lineToChange_56 : decode prog_7_method_25_code 56 = .ok (.invokevirtual 150, 3) := by decide +kernel
theorem dX5_lineToChange_59 : decode prog_7_method_25_code 59 = .ok (.iload 5, 2) := by decide +kernel
theorem dX5_lineToChange_61 : decode prog_7_method_25_code 61 = .ok (.if_icmp .le 6, 3) := by decide +kernel
theorem dX5_lineToChange_64 : decode prog_7_method_25_code 64 = .ok (.iload 7, 2) := by decide +kernel
theorem dX5_lineToChange_66 : decode prog_7_method_25_code 66 = .ok (.ireturn, 1) := by decide +kernel
theorem dX5_lineToChange_67 : decode prog_7_method_25_code 67 = .ok (.iload 8, 2) := by decide +kernel
theorem dX5_lineToChange_69 : decode prog_7_method_25_code 69 = .ok (.iconst 2, 1) := by decide +kernel
theorem dX5_lineToChange_70 : decode prog_7_method_25_code 70 = .ok (.irem, 1) := by decide +kernel
theorem dX5_lineToChange_71 : decode prog_7_method_25_code 71 = .ok (.iload_n 2, 1) := by decide +kernel
theorem dX5_lineToChange_72 : decode prog_7_method_25_code 72 = .ok (.if_icmp .ne 14, 3) := by decide +kernel
theorem dX5_lineToChange_75 : decode prog_7_method_25_code 75 = .ok (.iload 8, 2) := by decide +kernel
theorem dX5_lineToChange_77 : decode prog_7_method_25_code 77 = .ok (.iload 4, 2) := by decide +kernel
theorem dX5_lineToChange_79 : decode prog_7_method_25_code 79 = .ok (.if_icmp .eq 7, 3) := by decide +kernel
theorem dX5_lineToChange_82 : decode prog_7_method_25_code 82 = .ok (.iload 7, 2) := by decide +kernel
theorem dX5_lineToChange_84 : decode prog_7_method_25_code 84 = .ok (.istore 6, 2) := by decide +kernel
theorem dX5_lineToChange_86 : decode prog_7_method_25_code 86 = .ok (.iinc 7 1, 3) := by decide +kernel
theorem dX5_lineToChange_89 : decode prog_7_method_25_code 89 = .ok (.goto (-64), 3) := by decide +kernel
theorem dX5_lineToChange_92 : decode prog_7_method_25_code 92 = .ok (.iload 6, 2) := by decide +kernel
theorem dX5_lineToChange_94 : decode prog_7_method_25_code 94 = .ok (.ireturn, 1) := by decide +kernel
abbrev A_X5_lineToChange_25 (l : Launch) (E : bE) (Q : Int → Prop) (v1 : Int) (v2 : Int) (v4 : Int) (v5 : Int) (M : bM) : (Int × Int) → Prop := (fun t : Int × Int => V l E xX5_lineToChange (0, 0) 25 [(0, bR 3), (1, bI v1), (2, bI v2), (4, bI v4), (5, bI v5), (6, bI (t.1)), (7, bI (t.2))] [] M (b_pIp M Q))
abbrev X_X5_lineToChange_25 (l : Launch) (E : bE) (Q : Int → Prop) (v1 : Int) (v2 : Int) (v4 : Int) (v5 : Int) (M : bM) : ((Int) ⊕ Int) → Prop := (Sum.elim (fun t : Int => V l E xX5_lineToChange (0, 0) 92 [(6, bI t)] [] M (b_pIp M Q)) Q)
noncomputable def F_X5_lineToChange_b67 (v1 : Int) (v2 : Int) (v4 : Int) (v5 : Int) (v6 : Int) (v7 : Int) (v8 : Int) (M : bM) : Option ((Int × Int) ⊕ ((Int) ⊕ Int)) :=
  if (i_rem v8 2) = v2 then (if v8 = v4 then (b_g (b_i32 (v7 + 1)) (some (.inl (v6, (v7 + 1))))) else (b_g (b_i32 (v7 + 1)) (some (.inl (v7, (v7 + 1)))))) else (b_g (b_i32 (v7 + 1)) (some (.inl (v6, (v7 + 1)))))
theorem t_X5_lineToChange_b67 {l : Launch} {E : bE} {Q : Int → Prop} {v1 : Int} {v2 : Int} {v4 : Int} {v5 : Int} {v6 : Int} {v7 : Int} {v8 : Int} {M : bM} (h : b_wp (F_X5_lineToChange_b67 v1 v2 v4 v5 v6 v7 v8 M) (Sum.elim (A_X5_lineToChange_25 l E Q v1 v2 v4 v5 M) (X_X5_lineToChange_25 l E Q v1 v2 v4 v5 M))) : V l E xX5_lineToChange (0, 0) 67 [(0, bR 3), (1, bI v1), (2, bI v2), (4, bI v4), (5, bI v5), (6, bI v6), (7, bI v7), (8, bI v8)] [] M (b_pIp M Q) := by
  unfold F_X5_lineToChange_b67 at h
  refine v_iload (i := 8) 7 rfl dX5_lineToChange_67 ?_
  refine v_iconst ⟨by decide, by decide⟩ dX5_lineToChange_69 ?_
  refine v_irem (v := i_rem _ _) (by decide) rfl dX5_lineToChange_70 ?_
  refine v_iload_n (f := 2) 2 rfl dX5_lineToChange_71 ?_
  refine v_icmp_ne (tgt := 86) dX5_lineToChange_72 (by decide) (fun c9 => ?_) (fun c9 => ?_)
  · replace h := b_wp_f c9 h
    obtain ⟨g10, h⟩ := b_wp_g h
    refine v_iincN (ls' := [(7, bI _), (0, bR _), (1, bI _), (2, bI _), (4, bI _), (5, bI _), (6, bI _), (8, bI _)]) 6 rfl (by decide) g10 dX5_lineToChange_86 rfl ?_
    refine v_goto (tgt := 25) dX5_lineToChange_89 (by decide) ?_
    refine v_sub (ls2 := [(0, bR _), (1, bI _), (2, bI _), (4, bI _), (5, bI _), (6, bI _), (7, bI _)]) [1, 2, 3, 4, 5, 6, 0] rfl ?_
    exact h
  · replace h := b_wp_t c9 h
    refine v_iload (i := 8) 7 rfl dX5_lineToChange_75 ?_
    refine v_iload (i := 4) 3 rfl dX5_lineToChange_77 ?_
    refine v_icmp_eq (tgt := 86) dX5_lineToChange_79 (by decide) (fun c11 => ?_) (fun c11 => ?_)
    · replace h := b_wp_t c11 h
      obtain ⟨g12, h⟩ := b_wp_g h
      refine v_iincN (ls' := [(7, bI _), (0, bR _), (1, bI _), (2, bI _), (4, bI _), (5, bI _), (6, bI _), (8, bI _)]) 6 rfl (by decide) g12 dX5_lineToChange_86 rfl ?_
      refine v_goto (tgt := 25) dX5_lineToChange_89 (by decide) ?_
      refine v_sub (ls2 := [(0, bR _), (1, bI _), (2, bI _), (4, bI _), (5, bI _), (6, bI _), (7, bI _)]) [1, 2, 3, 4, 5, 6, 0] rfl ?_
      exact h
    · replace h := b_wp_f c11 h
      obtain ⟨g13, h⟩ := b_wp_g h
      refine v_iload (i := 7) 6 rfl dX5_lineToChange_82 ?_
      refine v_istore (i := 6) (ls' := [(6, bI _), (0, bR _), (1, bI _), (2, bI _), (4, bI _), (5, bI _), (7, bI _), (8, bI _)]) (by decide) dX5_lineToChange_84 rfl ?_
      refine v_iincN (ls' := [(7, bI _), (6, bI _), (0, bR _), (1, bI _), (2, bI _), (4, bI _), (5, bI _), (8, bI _)]) 6 rfl (by decide) g13 dX5_lineToChange_86 rfl ?_
      refine v_goto (tgt := 25) dX5_lineToChange_89 (by decide) ?_
      refine v_sub (ls2 := [(0, bR _), (1, bI _), (2, bI _), (4, bI _), (5, bI _), (6, bI _), (7, bI _)]) [2, 3, 4, 5, 6, 1, 0] rfl ?_
      exact h
noncomputable def F_X5_lineToChange_s25 (v1 : Int) (v2 : Int) (v4 : Int) (v5 : Int) (v6 : Int) (v7 : Int) (M : bM) : Option ((Int × Int) ⊕ ((Int) ⊕ Int)) :=
  b_g (0 ≤ v1 ∧ v1 < 60) (if (M 94 v1) ≤ v7 then (some (.inr (.inl (v6)))) else (b_bind (F_X5_wayOf v1 v7 M) (fun x7 => if x7 = v4 then (b_bind (F_X5_feetOf v1 v7 M) (fun x14 => if x14 ≤ v5 then (F_X5_lineToChange_b67 v1 v2 v4 v5 v6 v7 x7 M) else (some (.inr (.inr v7))))) else (F_X5_lineToChange_b67 v1 v2 v4 v5 v6 v7 x7 M))))
theorem t_X5_lineToChange_s25 {l : Launch} {E : bE} {Q : Int → Prop} {v1 : Int} {v2 : Int} {v4 : Int} {v5 : Int} {v6 : Int} {v7 : Int} {M : bM} (h : b_wp (F_X5_lineToChange_s25 v1 v2 v4 v5 v6 v7 M) (Sum.elim (A_X5_lineToChange_25 l E Q v1 v2 v4 v5 M) (X_X5_lineToChange_25 l E Q v1 v2 v4 v5 M))) : V l E xX5_lineToChange (0, 0) 25 [(0, bR 3), (1, bI v1), (2, bI v2), (4, bI v4), (5, bI v5), (6, bI v6), (7, bI v7)] [] M (b_pIp M Q) := by
  unfold F_X5_lineToChange_s25 at h
  obtain ⟨g5, h⟩ := b_wp_g h
  refine v_iload (i := 7) 6 rfl dX5_lineToChange_25 ?_
  refine v_aload_n (f := 0) 0 rfl dX5_lineToChange_27 ?_
  refine v_getR (kf := 10) (kz := 10) rfl kd_3 rfl ⟨by decide, by decide⟩ rfl wf_5_48 dX5_lineToChange_28 ?_
  refine v_iload_n (f := 1) 1 rfl dX5_lineToChange_31 ?_
  refine v_iaload kd_94 g5 (by decide) dX5_lineToChange_32 ?_
  refine v_icmp_ge (tgt := 92) dX5_lineToChange_33 (by decide) (fun c6 => ?_) (fun c6 => ?_)
  · replace h := b_wp_t c6 h
    refine v_sub (ls2 := [(6, bI _)]) [5] rfl ?_
    exact h
  · replace h := b_wp_f c6 h
    refine v_aload_n (f := 0) 0 rfl dX5_lineToChange_36 ?_
    refine v_iload_n (f := 1) 1 rfl dX5_lineToChange_37 ?_
    refine v_iload (i := 7) 6 rfl dX5_lineToChange_38 ?_
    refine v_cVIp (nA := 2) (As := [bI _, bI _]) (ix := 147) (cf_X5_wayOf (b_wp_b h)) rfl kd_3 rfl rfl wc_X5_wayOf wm_5_147 wi_X5_wayOf ws_X5_wayOf wn_5 ⟨by decide, by decide, by decide⟩ rfl ⟨by decide, by decide⟩ ⟨by decide, by decide⟩ (Nat.le_of_ble_eq_true rfl) dX5_lineToChange_40 (fun x7 h => ?_)
    refine v_istore (i := 8) (ls' := [(8, bI _), (0, bR _), (1, bI _), (2, bI _), (4, bI _), (5, bI _), (6, bI _), (7, bI _)]) (by decide) dX5_lineToChange_43 rfl ?_
    refine v_iload (i := 8) 0 rfl dX5_lineToChange_45 ?_
    refine v_iload (i := 4) 4 rfl dX5_lineToChange_47 ?_
    refine v_icmp_ne (tgt := 67) dX5_lineToChange_49 (by decide) (fun c8 => ?_) (fun c8 => ?_)
    · replace h := b_wp_f c8 h
      refine v_sub (ls2 := [(0, bR _), (1, bI _), (2, bI _), (4, bI _), (5, bI _), (6, bI _), (7, bI _), (8, bI _)]) [1, 2, 3, 4, 5, 6, 7, 0] rfl ?_
      exact t_X5_lineToChange_b67 h
    · replace h := b_wp_t c8 h
      refine v_aload_n (f := 0) 1 rfl dX5_lineToChange_52 ?_
      refine v_iload_n (f := 1) 2 rfl dX5_lineToChange_53 ?_
      refine v_iload (i := 7) 7 rfl dX5_lineToChange_54 ?_
      refine v_cVIp (nA := 2) (As := [bI _, bI _]) (ix := 150) (cf_X5_feetOf (b_wp_b h)) rfl kd_3 rfl rfl wc_X5_feetOf wm_5_150 wi_X5_feetOf ws_X5_feetOf wn_5 ⟨by decide, by decide, by decide⟩ rfl ⟨by decide, by decide⟩ ⟨by decide, by decide⟩ (Nat.le_of_ble_eq_true rfl) dX5_lineToChange_56 (fun x14 h => ?_)
      refine v_iload (i := 5) 5 rfl dX5_lineToChange_59 ?_
      refine v_icmp_le (tgt := 67) dX5_lineToChange_61 (by decide) (fun c15 => ?_) (fun c15 => ?_)
      · replace h := b_wp_t c15 h
        refine v_sub (ls2 := [(0, bR _), (1, bI _), (2, bI _), (4, bI _), (5, bI _), (6, bI _), (7, bI _), (8, bI _)]) [1, 2, 3, 4, 5, 6, 7, 0] rfl ?_
        exact t_X5_lineToChange_b67 h
      · replace h := b_wp_f c15 h
        refine v_iload (i := 7) 7 rfl dX5_lineToChange_64 ?_
        refine v_ireturn rfl dX5_lineToChange_66 ⟨by decide, by decide⟩ ?_
        exact ⟨_, rfl, rfl, h⟩
theorem l_X5_lineToChange_25 {l : Launch} {E : bE} {Q : Int → Prop} {v1 : Int} {v2 : Int} {v4 : Int} {v5 : Int} {M : bM} {s : Int × Int} (h : b_wp (b_loop (fun t => F_X5_lineToChange_s25 v1 v2 v4 v5 t.1 t.2 M) s) (X_X5_lineToChange_25 l E Q v1 v2 v4 v5 M)) : A_X5_lineToChange_25 l E Q v1 v2 v4 v5 M s := b_loop_wp (fun t h => t_X5_lineToChange_s25 h) s h
noncomputable def F_X5_lineToChange_b92 (v6 : Int) (M : bM) : Option (Int) :=
  some v6
theorem t_X5_lineToChange_b92 {l : Launch} {E : bE} {Q : Int → Prop} {v6 : Int} {M : bM} (h : b_wp (F_X5_lineToChange_b92 v6 M) (Q)) : V l E xX5_lineToChange (0, 0) 92 [(6, bI v6)] [] M (b_pIp M Q) := by
  unfold F_X5_lineToChange_b92 at h
  refine v_iload (i := 6) 0 rfl dX5_lineToChange_92 ?_
  refine v_ireturn rfl dX5_lineToChange_94 ⟨by decide, by decide⟩ ?_
  exact ⟨_, rfl, rfl, h⟩
noncomputable def F_X5_lineToChange_b11 (v1 : Int) (v2 : Int) (v3 : Int) (u0 : Int) (M : bM) : Option (Int) :=
  b_g (b_i32 (-v3)) (b_let ((max v3 (-v3))) (fun y4 => b_bind (b_loop (fun t => F_X5_lineToChange_s25 v1 v2 u0 y4 t.1 t.2 M) ((-1), 0)) (Sum.elim (fun t => F_X5_lineToChange_b92 t M) some)))
theorem t_X5_lineToChange_b11 {l : Launch} {E : bE} {Q : Int → Prop} {v1 : Int} {v2 : Int} {v3 : Int} {u0 : Int} {M : bM} (h : b_wp (F_X5_lineToChange_b11 v1 v2 v3 u0 M) (Q)) : V l E xX5_lineToChange (0, 0) 11 [(0, bR 3), (1, bI v1), (2, bI v2), (3, bI v3)] [bI u0] M (b_pIp M Q) := by
  unfold F_X5_lineToChange_b11 at h
  obtain ⟨g3, h⟩ := b_wp_g h
  refine v_istore (i := 4) (ls' := [(4, bI _), (0, bR _), (1, bI _), (2, bI _), (3, bI _)]) (by decide) dX5_lineToChange_11 rfl ?_
  refine v_iload_n (f := 3) 4 rfl dX5_lineToChange_13 ?_
  refine v_mabs g3 wm_5_167 wma_abs wmi wmc_abs ⟨by decide, by decide⟩ ⟨by decide, by decide⟩ (Nat.le_of_ble_eq_true rfl) dX5_lineToChange_14 ?_
  replace h := b_wp_l h
  refine v_istore (i := 5) (ls' := [(5, bI _), (4, bI _), (0, bR _), (1, bI _), (2, bI _), (3, bI _)]) (by decide) dX5_lineToChange_17 rfl ?_
  refine v_iconst ⟨by decide, by decide⟩ dX5_lineToChange_19 ?_
  refine v_istore (i := 6) (ls' := [(6, bI _), (5, bI _), (4, bI _), (0, bR _), (1, bI _), (2, bI _), (3, bI _)]) (by decide) dX5_lineToChange_20 rfl ?_
  refine v_iconst ⟨by decide, by decide⟩ dX5_lineToChange_22 ?_
  refine v_istore (i := 7) (ls' := [(7, bI _), (6, bI _), (5, bI _), (4, bI _), (0, bR _), (1, bI _), (2, bI _), (3, bI _)]) (by decide) dX5_lineToChange_23 rfl ?_
  refine v_sub (ls2 := [(0, bR _), (1, bI _), (2, bI _), (4, bI _), (5, bI _), (6, bI _), (7, bI _)]) [4, 5, 6, 3, 2, 1, 0] rfl ?_
  refine l_X5_lineToChange_25 (b_wp_m (fun t h => ?_) (b_wp_b h))
  cases t with
  | inr o => exact h
  | inl t =>
    show V l E xX5_lineToChange (0, 0) 92 [(6, bI _)] [] _ (b_pIp M Q)
    replace h := b_wp_inl h
    exact t_X5_lineToChange_b92 h
noncomputable def F_X5_lineToChange (v1 : Int) (v2 : Int) (v3 : Int) (M : bM) : Option (Int) :=
  if v3 ≤ 0 then (b_g (b_i32 (v2 + 2)) (F_X5_lineToChange_b11 v1 v2 v3 (v2 + 2) M)) else (F_X5_lineToChange_b11 v1 v2 v3 v2 M)
theorem t_X5_lineToChange {l : Launch} {E : bE} {Q : Int → Prop} {v1 : Int} {v2 : Int} {v3 : Int} {M : bM} (h : b_wp (F_X5_lineToChange v1 v2 v3 M) (Q)) : V l E xX5_lineToChange (0, 0) 0 [(0, bR 3), (1, bI v1), (2, bI v2), (3, bI v3)] [] M (b_pIp M Q) := by
  unfold F_X5_lineToChange at h
  refine v_iload_n (f := 3) 3 rfl dX5_lineToChange_0 ?_
  refine v_if_le (tgt := 8) dX5_lineToChange_1 (by decide) (fun c1 => ?_) (fun c1 => ?_)
  · replace h := b_wp_t c1 h
    obtain ⟨g2, h⟩ := b_wp_g h
    refine v_iload_n (f := 2) 2 rfl dX5_lineToChange_8 ?_
    refine v_iconst ⟨by decide, by decide⟩ dX5_lineToChange_9 ?_
    refine v_iaddN g2 dX5_lineToChange_10 ?_
    exact t_X5_lineToChange_b11 h
  · replace h := b_wp_f c1 h
    refine v_iload_n (f := 2) 2 rfl dX5_lineToChange_4 ?_
    refine v_goto (tgt := 11) dX5_lineToChange_5 (by decide) ?_
    exact t_X5_lineToChange_b11 h
theorem cf_X5_lineToChange {l : Launch} {E : bE} {M : bM} {v1 : Int} {v2 : Int} {v3 : Int} {Q : Int → Prop} (h : b_wp (F_X5_lineToChange v1 v2 v3 M) Q) : b_C l E xX5_lineToChange yX5_lineToChange [bR 3, bI v1, bI v2, bI v3] M (b_pIp M Q) := b_met (by decide) ⟨rfl, rfl⟩ (Nat.le_of_ble_eq_true rfl) (fun _ _ => t_X5_lineToChange h)
abbrev xX5_changeLine : bX := ("BurntHall$Lots", prog_7_method_26_code, 5, (Option.none : Option Jvm.ClassFile.FieldType), b_rm 2 0 0, 0, "changeLine")
abbrev yX5_changeLine : MethodName := ⟨"BurntHall$Lots", "changeLine", "(IIII)V"⟩
theorem dX5_changeLine_0 : decode prog_7_method_26_code 0 = .ok (.iload_n 2, 1) := by decide +kernel
theorem dX5_changeLine_1 : decode prog_7_method_26_code 1 = .ok (.iconst (-1), 1) := by decide +kernel
theorem dX5_changeLine_2 : decode prog_7_method_26_code 2 = .ok (.if_icmp .eq 35, 3) := by decide +kernel
theorem dX5_changeLine_5 : decode prog_7_method_26_code 5 = .ok (.aload_n 0, 1) := by decide +kernel
theorem dX5_changeLine_6 : decode prog_7_method_26_code 6 = .ok (.getfield 57, 3) := by decide +kernel
theorem dX5_changeLine_9 : decode prog_7_method_26_code 9 = .ok (.iload_n 1, 1) := by decide +kernel
theorem dX5_changeLine_10 : decode prog_7_method_26_code 10 = .ok (.bipush 12, 2) := by decide +kernel
theorem dX5_changeLine_12 : decode prog_7_method_26_code 12 = .ok (.imul, 1) := by decide +kernel
theorem dX5_changeLine_13 : decode prog_7_method_26_code 13 = .ok (.iload_n 2, 1) := by decide +kernel
theorem dX5_changeLine_14 : decode prog_7_method_26_code 14 = .ok (.iadd, 1) := by decide +kernel
theorem dX5_changeLine_15 : decode prog_7_method_26_code 15 = .ok (.dup2, 1) := by decide +kernel
theorem dX5_changeLine_16 : decode prog_7_method_26_code 16 = .ok (.iaload, 1) := by decide +kernel
theorem dX5_changeLine_17 : decode prog_7_method_26_code 17 = .ok (.aload_n 0, 1) := by decide +kernel
theorem dX5_changeLine_18 : decode prog_7_method_26_code 18 = .ok (.iload_n 1, 1) := by decide +kernel
theorem dX5_changeLine_19 : decode prog_7_method_26_code 19 = .ok (.iload_n 2, 1) := by decide +kernel
theorem dX5_changeLine_20 : decode prog_7_method_26_code 20 = .ok (.invokevirtual 147, 3) := by decide +kernel
theorem dX5_changeLine_23 : decode prog_7_method_26_code 23 = .ok (.iload_n 3, 1) := by decide +kernel
theorem dX5_changeLine_24 : decode prog_7_method_26_code 24 = .ok (.if_icmp .ne 9, 3) := by decide +kernel
theorem dX5_changeLine_27 : decode prog_7_method_26_code 27 = .ok (.iload 4, 2) := by decide +kernel
theorem dX5_changeLine_29 : decode prog_7_method_26_code 29 = .ok (.ineg, 1) := by decide +kernel
theorem dX5_changeLine_30 : decode prog_7_method_26_code 30 = .ok (.goto 5, 3) := by decide +kernel
theorem dX5_changeLine_33 : decode prog_7_method_26_code 33 = .ok (.iload 4, 2) := by decide +kernel
theorem dX5_changeLine_35 : decode prog_7_method_26_code 35 = .ok (.iadd, 1) := by decide +kernel
theorem dX5_changeLine_36 : decode prog_7_method_26_code 36 = .ok (.iastore, 1) := by decide +kernel
theorem dX5_changeLine_37 : decode prog_7_method_26_code 37 = .ok (.return_, 1) := by decide +kernel
noncomputable def F_X5_changeLine_b35 (u1 : Int) (u2 : Int) (u3 : Int) (M : bM) : Option (bM) :=
  b_g ((b_i32 (u2 + u3)) ∧ (0 ≤ u1 ∧ u1 < 720)) (b_let (b_up M 97 u1 (u2 + u3)) (fun M9 => some M9))
theorem t_X5_changeLine_b35 {l : Launch} {E : bE} {Q : bM → Prop} {u1 : Int} {u2 : Int} {u3 : Int} {M : bM} (h : b_wp (F_X5_changeLine_b35 u1 u2 u3 M) (Q)) : V l E xX5_changeLine (0, 0) 35 [] [bI u3, bI u2, bI u1, bR 97] M (b_pV Q) := by
  unfold F_X5_changeLine_b35 at h
  obtain ⟨⟨g7, g8⟩, h⟩ := b_wp_g h
  refine v_iaddN g7 dX5_changeLine_35 ?_
  refine v_iastore kd_97 g8 (by decide) dX5_changeLine_36 ?_
  replace h := b_wp_l h
  refine v_return rfl dX5_changeLine_37 ⟨by decide, by decide⟩ ?_
  exact ⟨rfl, h⟩
noncomputable def F_X5_changeLine (v1 : Int) (v2 : Int) (v3 : Int) (v4 : Int) (M : bM) : Option (bM) :=
  if v2 = (-1) then (some M) else (b_g ((b_i32 (v1 * 12)) ∧ (b_i32 ((v1 * 12) + v2)) ∧ (0 ≤ ((v1 * 12) + v2) ∧ ((v1 * 12) + v2) < 720)) (b_bind (F_X5_wayOf v1 v2 M) (fun x5 => if x5 = v3 then (b_g (b_i32 (-v4)) (F_X5_changeLine_b35 ((v1 * 12) + v2) (M 97 ((v1 * 12) + v2)) (-v4) M)) else (F_X5_changeLine_b35 ((v1 * 12) + v2) (M 97 ((v1 * 12) + v2)) v4 M))))
theorem t_X5_changeLine {l : Launch} {E : bE} {Q : bM → Prop} {v1 : Int} {v2 : Int} {v3 : Int} {v4 : Int} {M : bM} (h : b_wp (F_X5_changeLine v1 v2 v3 v4 M) (Q)) : V l E xX5_changeLine (0, 0) 0 [(0, bR 3), (1, bI v1), (2, bI v2), (3, bI v3), (4, bI v4)] [] M (b_pV Q) := by
  unfold F_X5_changeLine at h
  refine v_iload_n (f := 2) 2 rfl dX5_changeLine_0 ?_
  refine v_iconst ⟨by decide, by decide⟩ dX5_changeLine_1 ?_
  refine v_icmp_eq (tgt := 37) dX5_changeLine_2 (by decide) (fun c1 => ?_) (fun c1 => ?_)
  · replace h := b_wp_t c1 h
    refine v_return rfl dX5_changeLine_37 ⟨by decide, by decide⟩ ?_
    exact ⟨rfl, h⟩
  · replace h := b_wp_f c1 h
    obtain ⟨⟨g2, g3, g4⟩, h⟩ := b_wp_g h
    refine v_aload_n (f := 0) 0 rfl dX5_changeLine_5 ?_
    refine v_getR (kf := 13) (kz := 13) rfl kd_3 rfl ⟨by decide, by decide⟩ rfl wf_5_57 dX5_changeLine_6 ?_
    refine v_iload_n (f := 1) 1 rfl dX5_changeLine_9 ?_
    refine v_bipush ⟨by decide, by decide⟩ (by decide) dX5_changeLine_10 ?_
    refine v_imulN g2 dX5_changeLine_12 ?_
    refine v_iload_n (f := 2) 2 rfl dX5_changeLine_13 ?_
    refine v_iaddN g3 dX5_changeLine_14 ?_
    refine v_dup2 rfl rfl dX5_changeLine_15 ?_
    refine v_iaload kd_97 g4 (by decide) dX5_changeLine_16 ?_
    refine v_aload_n (f := 0) 0 rfl dX5_changeLine_17 ?_
    refine v_iload_n (f := 1) 1 rfl dX5_changeLine_18 ?_
    refine v_iload_n (f := 2) 2 rfl dX5_changeLine_19 ?_
    refine v_cVIp (nA := 2) (As := [bI _, bI _]) (ix := 147) (cf_X5_wayOf (b_wp_b h)) rfl kd_3 rfl rfl wc_X5_wayOf wm_5_147 wi_X5_wayOf ws_X5_wayOf wn_5 ⟨by decide, by decide, by decide⟩ rfl ⟨by decide, by decide⟩ ⟨by decide, by decide⟩ (Nat.le_of_ble_eq_true rfl) dX5_changeLine_20 (fun x5 h => ?_)
    refine v_iload_n (f := 3) 3 rfl dX5_changeLine_23 ?_
    refine v_icmp_ne (tgt := 33) dX5_changeLine_24 (by decide) (fun c6 => ?_) (fun c6 => ?_)
    · replace h := b_wp_f c6 h
      refine v_iload (i := 4) 4 rfl dX5_changeLine_33 ?_
      refine v_sub (ls2 := []) [] rfl ?_
      exact t_X5_changeLine_b35 h
    · replace h := b_wp_t c6 h
      obtain ⟨g10, h⟩ := b_wp_g h
      refine v_iload (i := 4) 4 rfl dX5_changeLine_27 ?_
      refine v_inegN g10 dX5_changeLine_29 ?_
      refine v_goto (tgt := 35) dX5_changeLine_30 (by decide) ?_
      refine v_sub (ls2 := []) [] rfl ?_
      exact t_X5_changeLine_b35 h
theorem cf_X5_changeLine {l : Launch} {E : bE} {M : bM} {v1 : Int} {v2 : Int} {v3 : Int} {v4 : Int} {Q : bM → Prop} (h : b_wp (F_X5_changeLine v1 v2 v3 v4 M) Q) : b_C l E xX5_changeLine yX5_changeLine [bR 3, bI v1, bI v2, bI v3, bI v4] M (b_pV Q) := b_met (by decide) ⟨rfl, rfl⟩ (Nat.le_of_ble_eq_true rfl) (fun _ _ => t_X5_changeLine h)
abbrev xX5_closeBounds : bX := ("BurntHall$Lots", prog_7_method_24_code, 6, (Option.some Jvm.ClassFile.FieldType.int), b_rm 4 0 0, 0, "closeBounds")
abbrev yX5_closeBounds : MethodName := ⟨"BurntHall$Lots", "closeBounds", "(I)I"⟩
theorem dX5_closeBounds_0 : decode prog_7_method_24_code 0 = .ok (.aload_n 0, 1) := by decide +kernel
theorem dX5_closeBounds_1 : decode prog_7_method_24_code 1 = .ok (.iload_n 1, 1) := by decide +kernel
theorem dX5_closeBounds_2 : decode prog_7_method_24_code 2 = .ok (.iconst 0, 1) := by decide +kernel
theorem dX5_closeBounds_3 : decode prog_7_method_24_code 3 = .ok (.invokevirtual 156, 3) := by decide +kernel
theorem dX5_closeBounds_6 : decode prog_7_method_24_code 6 = .ok (.istore_n 2, 1) := by decide +kernel
theorem dX5_closeBounds_7 : decode prog_7_method_24_code 7 = .ok (.aload_n 0, 1) := by decide +kernel
theorem dX5_closeBounds_8 : decode prog_7_method_24_code 8 = .ok (.iload_n 1, 1) := by decide +kernel
theorem dX5_closeBounds_9 : decode prog_7_method_24_code 9 = .ok (.iconst 1, 1) := by decide +kernel
theorem dX5_closeBounds_10 : decode prog_7_method_24_code 10 = .ok (.invokevirtual 156, 3) := by decide +kernel
theorem dX5_closeBounds_13 : decode prog_7_method_24_code 13 = .ok (.istore_n 3, 1) := by decide +kernel
theorem dX5_closeBounds_14 : decode prog_7_method_24_code 14 = .ok (.aload_n 0, 1) := by decide +kernel
theorem dX5_closeBounds_15 : decode prog_7_method_24_code 15 = .ok (.iload_n 1, 1) := by decide +kernel
theorem dX5_closeBounds_16 : decode prog_7_method_24_code 16 = .ok (.iconst 0, 1) := by decide +kernel
theorem dX5_closeBounds_17 : decode prog_7_method_24_code 17 = .ok (.iload_n 2, 1) := by decide +kernel
theorem dX5_closeBounds_18 : decode prog_7_method_24_code 18 = .ok (.invokevirtual 159, 3) := by decide +kernel
theorem dX5_closeBounds_21 : decode prog_7_method_24_code 21 = .ok (.istore 4, 2) := by decide +kernel
theorem dX5_closeBounds_23 : decode prog_7_method_24_code 23 = .ok (.aload_n 0, 1) := by decide +kernel
theorem dX5_closeBounds_24 : decode prog_7_method_24_code 24 = .ok (.iload_n 1, 1) := by decide +kernel
theorem dX5_closeBounds_25 : decode prog_7_method_24_code 25 = .ok (.iconst 1, 1) := by decide +kernel
theorem dX5_closeBounds_26 : decode prog_7_method_24_code 26 = .ok (.iload_n 3, 1) := by decide +kernel
theorem dX5_closeBounds_27 : decode prog_7_method_24_code 27 = .ok (.invokevirtual 159, 3) := by decide +kernel
theorem dX5_closeBounds_30 : decode prog_7_method_24_code 30 = .ok (.istore 5, 2) := by decide +kernel
theorem dX5_closeBounds_32 : decode prog_7_method_24_code 32 = .ok (.iload_n 2, 1) := by decide +kernel
theorem dX5_closeBounds_33 : decode prog_7_method_24_code 33 = .ok (.ifCond .eq 9, 3) := by decide +kernel
theorem dX5_closeBounds_36 : decode prog_7_method_24_code 36 = .ok (.iload 4, 2) := by decide +kernel
theorem dX5_closeBounds_38 : decode prog_7_method_24_code 38 = .ok (.iconst (-1), 1) := by decide +kernel
theorem dX5_closeBounds_39 : decode prog_7_method_24_code 39 = .ok (.if_icmp .eq 13, 3) := by decide +kernel
theorem dX5_closeBounds_42 : decode prog_7_method_24_code 42 = .ok (.iload_n 3, 1) := by decide +kernel
theorem dX5_closeBounds_43 : decode prog_7_method_24_code 43 = .ok (.ifCond .eq 11, 3) := by decide +kernel
theorem dX5_closeBounds_46 : decode prog_7_method_24_code 46 = .ok (.iload 5, 2) := by decide +kernel
theorem dX5_closeBounds_48 : decode prog_7_method_24_code 48 = .ok (.iconst (-1), 1) := by decide +kernel
theorem dX5_closeBounds_49 : decode prog_7_method_24_code 49 = .ok (.if_icmp .ne 5, 3) := by decide +kernel
theorem dX5_closeBounds_52 : decode prog_7_method_24_code 52 = .ok (.iconst (-1), 1) := by decide +kernel
theorem dX5_closeBounds_53 : decode prog_7_method_24_code 53 = .ok (.ireturn, 1) := by decide +kernel
theorem dX5_closeBounds_54 : decode prog_7_method_24_code 54 = .ok (.aload_n 0, 1) := by decide +kernel
theorem dX5_closeBounds_55 : decode prog_7_method_24_code 55 = .ok (.iload_n 1, 1) := by decide +kernel
theorem dX5_closeBounds_56 : decode prog_7_method_24_code 56 = .ok (.iload 4, 2) := by decide +kernel
theorem dX5_closeBounds_58 : decode prog_7_method_24_code 58 = .ok (.iconst 0, 1) := by decide +kernel
theorem dX5_closeBounds_59 : decode prog_7_method_24_code 59 = .ok (.iload_n 2, 1) := by decide +kernel
theorem dX5_closeBounds_60 : decode prog_7_method_24_code 60 = .ok (.invokevirtual 163, 3) := by decide +kernel
theorem dX5_closeBounds_63 : decode prog_7_method_24_code 63 = .ok (.aload_n 0, 1) := by decide +kernel
theorem dX5_closeBounds_64 : decode prog_7_method_24_code 64 = .ok (.iload_n 1, 1) := by decide +kernel
theorem dX5_closeBounds_65 : decode prog_7_method_24_code 65 = .ok (.iload 5, 2) := by decide +kernel
theorem dX5_closeBounds_67 : decode prog_7_method_24_code 67 = .ok (.iconst 1, 1) := by decide +kernel
theorem dX5_closeBounds_68 : decode prog_7_method_24_code 68 = .ok (.iload_n 3, 1) := by decide +kernel
theorem dX5_closeBounds_69 : decode prog_7_method_24_code 69 = .ok (.invokevirtual 163, 3) := by decide +kernel
theorem dX5_closeBounds_72 : decode prog_7_method_24_code 72 = .ok (.iload_n 2, 1) := by decide +kernel
theorem dX5_closeBounds_73 : decode prog_7_method_24_code 73 = .ok (.invokestatic 167, 3) := by decide +kernel
theorem dX5_closeBounds_76 : decode prog_7_method_24_code 76 = .ok (.iload_n 3, 1) := by decide +kernel
theorem dX5_closeBounds_77 : decode prog_7_method_24_code 77 = .ok (.invokestatic 167, 3) := by decide +kernel
theorem dX5_closeBounds_80 : decode prog_7_method_24_code 80 = .ok (.iadd, 1) := by decide +kernel
theorem dX5_closeBounds_81 : decode prog_7_method_24_code 81 = .ok (.ireturn, 1) := by decide +kernel
noncomputable def F_X5_closeBounds_b54 (v1 : Int) (v2 : Int) (v3 : Int) (v4 : Int) (v5 : Int) (M : bM) : Option (Int × bM) :=
  b_bind (F_X5_changeLine v1 v4 0 v2 M) (fun M7 => b_bind (F_X5_changeLine v1 v5 1 v3 M7) (fun M8 => b_g ((b_i32 (-v2)) ∧ (b_i32 (-v3)) ∧ (b_i32 ((max v2 (-v2)) + (max v3 (-v3))))) (some (((max v2 (-v2)) + (max v3 (-v3))), M8))))
theorem t_X5_closeBounds_b54 {l : Launch} {E : bE} {Q : (Int × bM) → Prop} {v1 : Int} {v2 : Int} {v3 : Int} {v4 : Int} {v5 : Int} {M : bM} (h : b_wp (F_X5_closeBounds_b54 v1 v2 v3 v4 v5 M) (Q)) : V l E xX5_closeBounds (0, 0) 54 [(0, bR 3), (1, bI v1), (2, bI v2), (3, bI v3), (4, bI v4), (5, bI v5)] [] M (b_pI Q) := by
  unfold F_X5_closeBounds_b54 at h
  refine v_aload_n (f := 0) 0 rfl dX5_closeBounds_54 ?_
  refine v_iload_n (f := 1) 1 rfl dX5_closeBounds_55 ?_
  refine v_iload (i := 4) 4 rfl dX5_closeBounds_56 ?_
  refine v_iconst ⟨by decide, by decide⟩ dX5_closeBounds_58 ?_
  refine v_iload_n (f := 2) 2 rfl dX5_closeBounds_59 ?_
  refine v_cVV (nA := 4) (As := [bI _, bI _, bI _, bI _]) (ix := 163) (cf_X5_changeLine (b_wp_b h)) rfl kd_3 rfl rfl wc_X5_changeLine wm_5_163 wi_X5_changeLine ws_X5_changeLine wn_5 ⟨by decide, by decide, by decide⟩ rfl ⟨by decide, by decide⟩ ⟨by decide, by decide⟩ (Nat.le_of_ble_eq_true rfl) dX5_closeBounds_60 (fun M7 h => ?_)
  refine v_aload_n (f := 0) 0 rfl dX5_closeBounds_63 ?_
  refine v_iload_n (f := 1) 1 rfl dX5_closeBounds_64 ?_
  refine v_iload (i := 5) 5 rfl dX5_closeBounds_65 ?_
  refine v_iconst ⟨by decide, by decide⟩ dX5_closeBounds_67 ?_
  refine v_iload_n (f := 3) 3 rfl dX5_closeBounds_68 ?_
  refine v_cVV (nA := 4) (As := [bI _, bI _, bI _, bI _]) (ix := 163) (cf_X5_changeLine (b_wp_b h)) rfl kd_3 rfl rfl wc_X5_changeLine wm_5_163 wi_X5_changeLine ws_X5_changeLine wn_5 ⟨by decide, by decide, by decide⟩ rfl ⟨by decide, by decide⟩ ⟨by decide, by decide⟩ (Nat.le_of_ble_eq_true rfl) dX5_closeBounds_69 (fun M8 h => ?_)
  obtain ⟨⟨g9, g10, g11⟩, h⟩ := b_wp_g h
  refine v_iload_n (f := 2) 2 rfl dX5_closeBounds_72 ?_
  refine v_mabs g9 wm_5_167 wma_abs wmi wmc_abs ⟨by decide, by decide⟩ ⟨by decide, by decide⟩ (Nat.le_of_ble_eq_true rfl) dX5_closeBounds_73 ?_
  refine v_iload_n (f := 3) 3 rfl dX5_closeBounds_76 ?_
  refine v_mabs g10 wm_5_167 wma_abs wmi wmc_abs ⟨by decide, by decide⟩ ⟨by decide, by decide⟩ (Nat.le_of_ble_eq_true rfl) dX5_closeBounds_77 ?_
  refine v_iaddN g11 dX5_closeBounds_80 ?_
  refine v_ireturn rfl dX5_closeBounds_81 ⟨by decide, by decide⟩ ?_
  exact ⟨_, rfl, h⟩
noncomputable def F_X5_closeBounds_b42 (v1 : Int) (v2 : Int) (v3 : Int) (v4 : Int) (v5 : Int) (M : bM) : Option (Int × bM) :=
  if v3 = 0 then (F_X5_closeBounds_b54 v1 v2 v3 v4 v5 M) else (if v5 = (-1) then (some ((-1), M)) else (F_X5_closeBounds_b54 v1 v2 v3 v4 v5 M))
theorem t_X5_closeBounds_b42 {l : Launch} {E : bE} {Q : (Int × bM) → Prop} {v1 : Int} {v2 : Int} {v3 : Int} {v4 : Int} {v5 : Int} {M : bM} (h : b_wp (F_X5_closeBounds_b42 v1 v2 v3 v4 v5 M) (Q)) : V l E xX5_closeBounds (0, 0) 42 [(0, bR 3), (1, bI v1), (2, bI v2), (3, bI v3), (4, bI v4), (5, bI v5)] [] M (b_pI Q) := by
  unfold F_X5_closeBounds_b42 at h
  refine v_iload_n (f := 3) 3 rfl dX5_closeBounds_42 ?_
  refine v_if_eq (tgt := 54) dX5_closeBounds_43 (by decide) (fun c6 => ?_) (fun c6 => ?_)
  · replace h := b_wp_t c6 h
    exact t_X5_closeBounds_b54 h
  · replace h := b_wp_f c6 h
    refine v_iload (i := 5) 5 rfl dX5_closeBounds_46 ?_
    refine v_iconst ⟨by decide, by decide⟩ dX5_closeBounds_48 ?_
    refine v_icmp_ne (tgt := 54) dX5_closeBounds_49 (by decide) (fun c12 => ?_) (fun c12 => ?_)
    · replace h := b_wp_f c12 h
      exact t_X5_closeBounds_b54 h
    · replace h := b_wp_t c12 h
      refine v_iconst ⟨by decide, by decide⟩ dX5_closeBounds_52 ?_
      refine v_ireturn rfl dX5_closeBounds_53 ⟨by decide, by decide⟩ ?_
      exact ⟨_, rfl, h⟩
noncomputable def F_X5_closeBounds (v1 : Int) (M : bM) : Option (Int × bM) :=
  b_bind (F_X5_miss v1 0 M) (fun x1 => b_bind (F_X5_miss v1 1 M) (fun x2 => b_bind (F_X5_lineToChange v1 0 x1 M) (fun x3 => b_bind (F_X5_lineToChange v1 1 x2 M) (fun x4 => if x1 = 0 then (F_X5_closeBounds_b42 v1 x1 x2 x3 x4 M) else (if x3 = (-1) then (some ((-1), M)) else (F_X5_closeBounds_b42 v1 x1 x2 x3 x4 M))))))
theorem t_X5_closeBounds {l : Launch} {E : bE} {Q : (Int × bM) → Prop} {v1 : Int} {M : bM} (h : b_wp (F_X5_closeBounds v1 M) (Q)) : V l E xX5_closeBounds (0, 0) 0 [(0, bR 3), (1, bI v1)] [] M (b_pI Q) := by
  unfold F_X5_closeBounds at h
  refine v_aload_n (f := 0) 0 rfl dX5_closeBounds_0 ?_
  refine v_iload_n (f := 1) 1 rfl dX5_closeBounds_1 ?_
  refine v_iconst ⟨by decide, by decide⟩ dX5_closeBounds_2 ?_
  refine v_cVIp (nA := 2) (As := [bI _, bI _]) (ix := 156) (cf_X5_miss (b_wp_b h)) rfl kd_3 rfl rfl wc_X5_miss wm_5_156 wi_X5_miss ws_X5_miss wn_5 ⟨by decide, by decide, by decide⟩ rfl ⟨by decide, by decide⟩ ⟨by decide, by decide⟩ (Nat.le_of_ble_eq_true rfl) dX5_closeBounds_3 (fun x1 h => ?_)
  refine v_istore_n (g := 2) (i := 2) (ls' := [(2, bI _), (0, bR _), (1, bI _)]) rfl (by decide) dX5_closeBounds_6 rfl ?_
  refine v_aload_n (f := 0) 1 rfl dX5_closeBounds_7 ?_
  refine v_iload_n (f := 1) 2 rfl dX5_closeBounds_8 ?_
  refine v_iconst ⟨by decide, by decide⟩ dX5_closeBounds_9 ?_
  refine v_cVIp (nA := 2) (As := [bI _, bI _]) (ix := 156) (cf_X5_miss (b_wp_b h)) rfl kd_3 rfl rfl wc_X5_miss wm_5_156 wi_X5_miss ws_X5_miss wn_5 ⟨by decide, by decide, by decide⟩ rfl ⟨by decide, by decide⟩ ⟨by decide, by decide⟩ (Nat.le_of_ble_eq_true rfl) dX5_closeBounds_10 (fun x2 h => ?_)
  refine v_istore_n (g := 3) (i := 3) (ls' := [(3, bI _), (2, bI _), (0, bR _), (1, bI _)]) rfl (by decide) dX5_closeBounds_13 rfl ?_
  refine v_aload_n (f := 0) 2 rfl dX5_closeBounds_14 ?_
  refine v_iload_n (f := 1) 3 rfl dX5_closeBounds_15 ?_
  refine v_iconst ⟨by decide, by decide⟩ dX5_closeBounds_16 ?_
  refine v_iload_n (f := 2) 1 rfl dX5_closeBounds_17 ?_
  refine v_cVIp (nA := 3) (As := [bI _, bI _, bI _]) (ix := 159) (cf_X5_lineToChange (b_wp_b h)) rfl kd_3 rfl rfl wc_X5_lineToChange wm_5_159 wi_X5_lineToChange ws_X5_lineToChange wn_5 ⟨by decide, by decide, by decide⟩ rfl ⟨by decide, by decide⟩ ⟨by decide, by decide⟩ (Nat.le_of_ble_eq_true rfl) dX5_closeBounds_18 (fun x3 h => ?_)
  refine v_istore (i := 4) (ls' := [(4, bI _), (3, bI _), (2, bI _), (0, bR _), (1, bI _)]) (by decide) dX5_closeBounds_21 rfl ?_
  refine v_aload_n (f := 0) 3 rfl dX5_closeBounds_23 ?_
  refine v_iload_n (f := 1) 4 rfl dX5_closeBounds_24 ?_
  refine v_iconst ⟨by decide, by decide⟩ dX5_closeBounds_25 ?_
  refine v_iload_n (f := 3) 1 rfl dX5_closeBounds_26 ?_
  refine v_cVIp (nA := 3) (As := [bI _, bI _, bI _]) (ix := 159) (cf_X5_lineToChange (b_wp_b h)) rfl kd_3 rfl rfl wc_X5_lineToChange wm_5_159 wi_X5_lineToChange ws_X5_lineToChange wn_5 ⟨by decide, by decide, by decide⟩ rfl ⟨by decide, by decide⟩ ⟨by decide, by decide⟩ (Nat.le_of_ble_eq_true rfl) dX5_closeBounds_27 (fun x4 h => ?_)
  refine v_istore (i := 5) (ls' := [(5, bI _), (4, bI _), (3, bI _), (2, bI _), (0, bR _), (1, bI _)]) (by decide) dX5_closeBounds_30 rfl ?_
  refine v_iload_n (f := 2) 3 rfl dX5_closeBounds_32 ?_
  refine v_if_eq (tgt := 42) dX5_closeBounds_33 (by decide) (fun c5 => ?_) (fun c5 => ?_)
  · replace h := b_wp_t c5 h
    refine v_sub (ls2 := [(0, bR _), (1, bI _), (2, bI _), (3, bI _), (4, bI _), (5, bI _)]) [4, 5, 3, 2, 1, 0] rfl ?_
    exact t_X5_closeBounds_b42 h
  · replace h := b_wp_f c5 h
    refine v_iload (i := 4) 1 rfl dX5_closeBounds_36 ?_
    refine v_iconst ⟨by decide, by decide⟩ dX5_closeBounds_38 ?_
    refine v_icmp_eq (tgt := 52) dX5_closeBounds_39 (by decide) (fun c13 => ?_) (fun c13 => ?_)
    · replace h := b_wp_t c13 h
      refine v_iconst ⟨by decide, by decide⟩ dX5_closeBounds_52 ?_
      refine v_ireturn rfl dX5_closeBounds_53 ⟨by decide, by decide⟩ ?_
      exact ⟨_, rfl, h⟩
    · replace h := b_wp_f c13 h
      refine v_sub (ls2 := [(0, bR _), (1, bI _), (2, bI _), (3, bI _), (4, bI _), (5, bI _)]) [4, 5, 3, 2, 1, 0] rfl ?_
      exact t_X5_closeBounds_b42 h
theorem cf_X5_closeBounds {l : Launch} {E : bE} {M : bM} {v1 : Int} {Q : (Int × bM) → Prop} (h : b_wp (F_X5_closeBounds v1 M) Q) : b_C l E xX5_closeBounds yX5_closeBounds [bR 3, bI v1] M (b_pI Q) := b_met (by decide) ⟨rfl, rfl⟩ (Nat.le_of_ble_eq_true rfl) (fun _ _ => t_X5_closeBounds h)
abbrev xX11_mend : bX := ("BurntHall", prog_1_method_21_code, 3, (Option.some Jvm.ClassFile.FieldType.int), b_rm 5 0 0, 0, "mend")
abbrev yX11_mend : MethodName := ⟨"BurntHall", "mend", "(I)I"⟩
theorem dX11_mend_0 : decode prog_1_method_21_code 0 = .ok (.aload_n 0, 1) := by decide +kernel
theorem dX11_mend_1 : decode prog_1_method_21_code 1 = .ok (.iload_n 1, 1) := by decide +kernel
theorem dX11_mend_2 : decode prog_1_method_21_code 2 = .ok (.invokevirtual 185, 3) := by decide +kernel
theorem dX11_mend_5 : decode prog_1_method_21_code 5 = .ok (.istore_n 2, 1) := by decide +kernel
theorem dX11_mend_6 : decode prog_1_method_21_code 6 = .ok (.iload_n 2, 1) := by decide +kernel
theorem dX11_mend_7 : decode prog_1_method_21_code 7 = .ok (.ifCond .ge 7, 3) := by decide +kernel
theorem dX11_mend_10 : decode prog_1_method_21_code 10 = .ok (.iload_n 2, 1) := by decide +kernel
theorem dX11_mend_11 : decode prog_1_method_21_code 11 = .ok (.goto 11, 3) := by decide +kernel
theorem dX11_mend_14 : decode prog_1_method_21_code 14 = .ok (.aload_n 0, 1) := by decide +kernel
theorem dX11_mend_15 : decode prog_1_method_21_code 15 = .ok (.getfield 26, 3) := by decide +kernel
theorem dX11_mend_18 : decode prog_1_method_21_code 18 = .ok (.iload_n 1, 1) := by decide +kernel
theorem dX11_mend_19 : decode prog_1_method_21_code 19 = .ok (.invokevirtual 196, 3) := by decide +kernel
theorem dX11_mend_22 : decode prog_1_method_21_code 22 = .ok (.ireturn, 1) := by decide +kernel
noncomputable def F_X11_mend (v1 : Int) (M : bM) : Option (Int × bM) :=
  b_bind (F_X11_withoutBounds v1 M) (fun x1 => if 0 ≤ x1 then (b_bind (F_X5_closeBounds v1 M) (fun t => b_two t (fun x3 M4 => some (x3, M4)))) else (some (x1, M)))
theorem t_X11_mend {l : Launch} {E : bE} {Q : (Int × bM) → Prop} {v1 : Int} {M : bM} (h : b_wp (F_X11_mend v1 M) (Q)) : V l E xX11_mend (0, 0) 0 [(0, bR 0), (1, bI v1)] [] M (b_pI Q) := by
  unfold F_X11_mend at h
  refine v_aload_n (f := 0) 0 rfl dX11_mend_0 ?_
  refine v_iload_n (f := 1) 1 rfl dX11_mend_1 ?_
  refine v_cVIp (nA := 1) (As := [bI _]) (ix := 185) (cf_X11_withoutBounds (b_wp_b h)) rfl kd_0 rfl rfl wc_X11_withoutBounds wm_11_185 wi_X11_withoutBounds ws_X11_withoutBounds wn_11 ⟨by decide, by decide, by decide⟩ rfl ⟨by decide, by decide⟩ ⟨by decide, by decide⟩ (Nat.le_of_ble_eq_true rfl) dX11_mend_2 (fun x1 h => ?_)
  refine v_istore_n (g := 2) (i := 2) (ls' := [(2, bI _), (0, bR _), (1, bI _)]) rfl (by decide) dX11_mend_5 rfl ?_
  refine v_iload_n (f := 2) 0 rfl dX11_mend_6 ?_
  refine v_if_ge (tgt := 14) dX11_mend_7 (by decide) (fun c2 => ?_) (fun c2 => ?_)
  · replace h := b_wp_t c2 h
    refine v_aload_n (f := 0) 1 rfl dX11_mend_14 ?_
    refine v_getR (kf := 2) (kz := 2) rfl kd_0 rfl ⟨by decide, by decide⟩ rfl wf_11_26 dX11_mend_15 ?_
    refine v_iload_n (f := 1) 2 rfl dX11_mend_18 ?_
    refine v_cVI (nA := 1) (As := [bI _]) (ix := 196) (cf_X5_closeBounds (b_wp_b h)) rfl kd_3 rfl rfl wc_X5_closeBounds wm_11_196 wi_X5_closeBounds ws_X5_closeBounds wn_5 ⟨by decide, by decide, by decide⟩ rfl ⟨by decide, by decide⟩ ⟨by decide, by decide⟩ (Nat.le_of_ble_eq_true rfl) dX11_mend_19 (fun x3 M4 h => ?_)
    replace h := b_wp_two h
    refine v_ireturn rfl dX11_mend_22 ⟨by decide, by decide⟩ ?_
    exact ⟨_, rfl, h⟩
  · replace h := b_wp_f c2 h
    refine v_iload_n (f := 2) 0 rfl dX11_mend_10 ?_
    refine v_goto (tgt := 22) dX11_mend_11 (by decide) ?_
    refine v_ireturn rfl dX11_mend_22 ⟨by decide, by decide⟩ ?_
    exact ⟨_, rfl, h⟩
theorem cf_X11_mend {l : Launch} {E : bE} {M : bM} {v1 : Int} {Q : (Int × bM) → Prop} (h : b_wp (F_X11_mend v1 M) Q) : b_C l E xX11_mend yX11_mend [bR 0, bI v1] M (b_pI Q) := b_met (by decide) ⟨rfl, rfl⟩ (Nat.le_of_ble_eq_true rfl) (fun _ _ => t_X11_mend h)
abbrev xX5_trace : bX := ("BurntHall$Lots", prog_7_method_27_code, 7, (Option.none : Option Jvm.ClassFile.FieldType), b_rm 2 0 0, 0, "trace")
abbrev yX5_trace : MethodName := ⟨"BurntHall$Lots", "trace", "(I[I[I)V"⟩
theorem dX5_trace_0 : decode prog_7_method_27_code 0 = .ok (.aload_n 2, 1) := by decide +kernel
theorem dX5_trace_1 : decode prog_7_method_27_code 1 = .ok (.iconst 0, 1) := by decide +kernel
theorem dX5_trace_2 : decode prog_7_method_27_code 2 = .ok (.aload_n 0, 1) := by decide +kernel
theorem dX5_trace_3 : decode prog_7_method_27_code 3 = .ok (.getfield 51, 3) := by decide +kernel
theorem dX5_trace_6 : decode prog_7_method_27_code 6 = .ok (.iload_n 1, 1) := by decide +kernel
theorem dX5_trace_7 : decode prog_7_method_27_code 7 = .ok (.iaload, 1) := by decide +kernel
theorem dX5_trace_8 : decode prog_7_method_27_code 8 = .ok (.iastore, 1) := by decide +kernel
theorem dX5_trace_9 : decode prog_7_method_27_code 9 = .ok (.aload_n 3, 1) := by decide +kernel
theorem dX5_trace_10 : decode prog_7_method_27_code 10 = .ok (.iconst 0, 1) := by decide +kernel
theorem dX5_trace_11 : decode prog_7_method_27_code 11 = .ok (.aload_n 0, 1) := by decide +kernel
theorem dX5_trace_12 : decode prog_7_method_27_code 12 = .ok (.getfield 54, 3) := by decide +kernel
theorem dX5_trace_15 : decode prog_7_method_27_code 15 = .ok (.iload_n 1, 1) := by decide +kernel
theorem dX5_trace_16 : decode prog_7_method_27_code 16 = .ok (.iaload, 1) := by decide +kernel
theorem dX5_trace_17 : decode prog_7_method_27_code 17 = .ok (.iastore, 1) := by decide +kernel
theorem dX5_trace_18 : decode prog_7_method_27_code 18 = .ok (.iconst 0, 1) := by decide +kernel
theorem dX5_trace_19 : decode prog_7_method_27_code 19 = .ok (.istore 4, 2) := by decide +kernel
theorem dX5_trace_21 : decode prog_7_method_27_code 21 = .ok (.iload 4, 2) := by decide +kernel
theorem dX5_trace_23 : decode prog_7_method_27_code 23 = .ok (.aload_n 0, 1) := by decide +kernel
theorem dX5_trace_24 : decode prog_7_method_27_code 24 = .ok (.getfield 48, 3) := by decide +kernel
theorem dX5_trace_27 : decode prog_7_method_27_code 27 = .ok (.iload_n 1, 1) := by decide +kernel
theorem dX5_trace_28 : decode prog_7_method_27_code 28 = .ok (.iaload, 1) := by decide +kernel
theorem dX5_trace_29 : decode prog_7_method_27_code 29 = .ok (.if_icmp .ge 103, 3) := by decide +kernel
theorem dX5_trace_32 : decode prog_7_method_27_code 32 = .ok (.iload 4, 2) := by decide +kernel
theorem dX5_trace_34 : decode prog_7_method_27_code 34 = .ok (.bipush 12, 2) := by decide +kernel
theorem dX5_trace_36 : decode prog_7_method_27_code 36 = .ok (.if_icmp .ge 96, 3) := by decide +kernel
theorem dX5_trace_39 : decode prog_7_method_27_code 39 = .ok (.aload_n 0, 1) := by decide +kernel
theorem dX5_trace_40 : decode prog_7_method_27_code 40 = .ok (.iload_n 1, 1) := by decide +kernel
theorem dX5_trace_41 : decode prog_7_method_27_code 41 = .ok (.iload 4, 2) := by decide +kernel
theorem dX5_trace_43 : decode prog_7_method_27_code 43 = .ok (.invokevirtual 147, 3) := by decide +kernel
theorem dX5_trace_46 : decode prog_7_method_27_code 46 = .ok (.istore 5, 2) := by decide +kernel
theorem dX5_trace_48 : decode prog_7_method_27_code 48 = .ok (.aload_n 0, 1) := by decide +kernel
theorem dX5_trace_49 : decode prog_7_method_27_code 49 = .ok (.iload_n 1, 1) := by decide +kernel
theorem dX5_trace_50 : decode prog_7_method_27_code 50 = .ok (.iload 4, 2) := by decide +kernel
theorem dX5_trace_52 : decode prog_7_method_27_code 52 = .ok (.invokevirtual 150, 3) := by decide +kernel
theorem dX5_trace_55 : decode prog_7_method_27_code 55 = .ok (.istore 6, 2) := by decide +kernel
theorem dX5_trace_57 : decode prog_7_method_27_code 57 = .ok (.aload_n 2, 1) := by decide +kernel
theorem dX5_trace_58 : decode prog_7_method_27_code 58 = .ok (.iload 4, 2) := by decide +kernel
theorem dX5_trace_60 : decode prog_7_method_27_code 60 = .ok (.iconst 1, 1) := by decide +kernel
theorem dX5_trace_61 : decode prog_7_method_27_code 61 = .ok (.iadd, 1) := by decide +kernel
theorem dX5_trace_62 : decode prog_7_method_27_code 62 = .ok (.aload_n 2, 1) := by decide +kernel
theorem dX5_trace_63 : decode prog_7_method_27_code 63 = .ok (.iload 4, 2) := by decide +kernel
theorem dX5_trace_65 : decode prog_7_method_27_code 65 = .ok (.iaload, 1) := by decide +kernel
theorem dX5_trace_66 : decode prog_7_method_27_code 66 = .ok (.iload 5, 2) := by decide +kernel
theorem dX5_trace_68 : decode prog_7_method_27_code 68 = .ok (.iconst 1, 1) := by decide +kernel
theorem dX5_trace_69 : decode prog_7_method_27_code 69 = .ok (.if_icmp .ne 8, 3) := by decide +kernel
theorem dX5_trace_72 : decode prog_7_method_27_code 72 = .ok (.iload 6, 2) := by decide +kernel
theorem dX5_trace_74 : decode prog_7_method_27_code 74 = .ok (.goto 16, 3) := by decide +kernel
theorem dX5_trace_77 : decode prog_7_method_27_code 77 = .ok (.iload 5, 2) := by decide +kernel
theorem dX5_trace_79 : decode prog_7_method_27_code 79 = .ok (.iconst 3, 1) := by decide +kernel
theorem dX5_trace_80 : decode prog_7_method_27_code 80 = .ok (.if_icmp .ne 9, 3) := by decide +kernel
theorem dX5_trace_83 : decode prog_7_method_27_code 83 = .ok (.iload 6, 2) := by decide +kernel
theorem dX5_trace_85 : decode prog_7_method_27_code 85 = .ok (.ineg, 1) := by decide +kernel
theorem dX5_trace_86 : decode prog_7_method_27_code 86 = .ok (.goto 4, 3) := by decide +kernel
theorem dX5_trace_89 : decode prog_7_method_27_code 89 = .ok (.iconst 0, 1) := by decide +kernel
theorem dX5_trace_90 : decode prog_7_method_27_code 90 = .ok (.iadd, 1) := by decide +kernel
theorem dX5_trace_91 : decode prog_7_method_27_code 91 = .ok (.iastore, 1) := by decide +kernel
theorem dX5_trace_92 : decode prog_7_method_27_code 92 = .ok (.aload_n 3, 1) := by decide +kernel
theorem dX5_trace_93 : decode prog_7_method_27_code 93 = .ok (.iload 4, 2) := by decide +kernel
theorem dX5_trace_95 : decode prog_7_method_27_code 95 = .ok (.iconst 1, 1) := by decide +kernel
theorem dX5_trace_96 : decode prog_7_method_27_code 96 = .ok (.iadd, 1) := by decide +kernel
theorem dX5_trace_97 : decode prog_7_method_27_code 97 = .ok (.aload_n 3, 1) := by decide +kernel
theorem dX5_trace_98 : decode prog_7_method_27_code 98 = .ok (.iload 4, 2) := by decide +kernel
theorem dX5_trace_100 : decode prog_7_method_27_code 100 = .ok (.iaload, 1) := by decide +kernel
theorem dX5_trace_101 : decode prog_7_method_27_code 101 = .ok (.iload 5, 2) := by decide +kernel
theorem dX5_trace_103 : decode prog_7_method_27_code 103 = .ok (.ifCond .ne 8, 3) := by decide +kernel
theorem dX5_trace_106 : decode prog_7_method_27_code 106 = .ok (.iload 6, 2) := by decide +kernel
theorem dX5_trace_108 : decode prog_7_method_27_code 108 = .ok (.goto 16, 3) := by decide +kernel
theorem dX5_trace_111 : decode prog_7_method_27_code 111 = .ok (.iload 5, 2) := by decide +kernel
theorem dX5_trace_113 : decode prog_7_method_27_code 113 = .ok (.iconst 2, 1) := by decide +kernel
theorem dX5_trace_114 : decode prog_7_method_27_code 114 = .ok (.if_icmp .ne 9, 3) := by decide +kernel
theorem dX5_trace_117 : decode prog_7_method_27_code 117 = .ok (.iload 6, 2) := by decide +kernel
theorem dX5_trace_119 : decode prog_7_method_27_code 119 = .ok (.ineg, 1) := by decide +kernel
theorem dX5_trace_120 : decode prog_7_method_27_code 120 = .ok (.goto 4, 3) := by decide +kernel
theorem dX5_trace_123 : decode prog_7_method_27_code 123 = .ok (.iconst 0, 1) := by decide +kernel
theorem dX5_trace_124 : decode prog_7_method_27_code 124 = .ok (.iadd, 1) := by decide +kernel
theorem dX5_trace_125 : decode prog_7_method_27_code 125 = .ok (.iastore, 1) := by decide +kernel
theorem dX5_trace_126 : decode prog_7_method_27_code 126 = .ok (.iinc 4 1, 3) := by decide +kernel
theorem dX5_trace_129 : decode prog_7_method_27_code 129 = .ok (.goto (-108), 3) := by decide +kernel
theorem dX5_trace_132 : decode prog_7_method_27_code 132 = .ok (.return_, 1) := by decide +kernel
abbrev A_X5_trace_100_101_21 (l : Launch) (E : bE) (Q : bM → Prop) (v1 : Int) : (Int × bM) → Prop := (fun t : Int × bM => V l E xX5_trace (0, 0) 21 [(0, bR 3), (1, bI v1), (2, bR 100), (3, bR 101), (4, bI (t.1))] [] t.2 (b_pV Q))
abbrev X_X5_trace_100_101_21 (l : Launch) (E : bE) (Q : bM → Prop) (v1 : Int) : (bM) → Prop := (fun t : bM => V l E xX5_trace (0, 0) 132 [] [] t (b_pV Q))
noncomputable def F_X5_trace_100_101_b124 (v1 : Int) (v4 : Int) (u1 : Int) (u2 : Int) (u3 : Int) (M : bM) : Option ((Int × bM) ⊕ (bM)) :=
  b_g ((b_i32 (u2 + u3)) ∧ (0 ≤ u1 ∧ u1 < 13)) (b_let (b_up M 101 u1 (u2 + u3)) (fun M23 => b_g (b_i32 (v4 + 1)) (some (.inl ((v4 + 1), M23)))))
theorem t_X5_trace_100_101_b124 {l : Launch} {E : bE} {Q : bM → Prop} {v1 : Int} {v4 : Int} {u1 : Int} {u2 : Int} {u3 : Int} {M : bM} (h : b_wp (F_X5_trace_100_101_b124 v1 v4 u1 u2 u3 M) (Sum.elim (A_X5_trace_100_101_21 l E Q v1) (X_X5_trace_100_101_21 l E Q v1))) : V l E xX5_trace (0, 0) 124 [(0, bR 3), (1, bI v1), (2, bR 100), (3, bR 101), (4, bI v4)] [bI u3, bI u2, bI u1, bR 101] M (b_pV Q) := by
  unfold F_X5_trace_100_101_b124 at h
  obtain ⟨⟨g21, g22⟩, h⟩ := b_wp_g h
  refine v_iaddN g21 dX5_trace_124 ?_
  refine v_iastore kd_101 g22 (by decide) dX5_trace_125 ?_
  replace h := b_wp_l h
  obtain ⟨g24, h⟩ := b_wp_g h
  refine v_iincN (ls' := [(4, bI _), (0, bR _), (1, bI _), (2, bR _), (3, bR _)]) 4 rfl (by decide) g24 dX5_trace_126 rfl ?_
  refine v_goto (tgt := 21) dX5_trace_129 (by decide) ?_
  refine v_sub (ls2 := [(0, bR _), (1, bI _), (2, bR _), (3, bR _), (4, bI _)]) [1, 2, 3, 4, 0] rfl ?_
  exact h
noncomputable def F_X5_trace_100_101_b90 (v1 : Int) (v4 : Int) (v5 : Int) (v6 : Int) (u1 : Int) (u2 : Int) (u3 : Int) (M : bM) : Option ((Int × bM) ⊕ (bM)) :=
  b_g ((b_i32 (u2 + u3)) ∧ (0 ≤ u1 ∧ u1 < 13)) (b_let (b_up M 100 u1 (u2 + u3)) (fun M16 => b_g ((b_i32 (v4 + 1)) ∧ (0 ≤ v4 ∧ v4 < 13)) (if v5 = 0 then (F_X5_trace_100_101_b124 v1 v4 (v4 + 1) (M16 101 v4) v6 M16) else (if v5 = 2 then (b_g (b_i32 (-v6)) (F_X5_trace_100_101_b124 v1 v4 (v4 + 1) (M16 101 v4) (-v6) M16)) else (F_X5_trace_100_101_b124 v1 v4 (v4 + 1) (M16 101 v4) 0 M16)))))
theorem t_X5_trace_100_101_b90 {l : Launch} {E : bE} {Q : bM → Prop} {v1 : Int} {v4 : Int} {v5 : Int} {v6 : Int} {u1 : Int} {u2 : Int} {u3 : Int} {M : bM} (h : b_wp (F_X5_trace_100_101_b90 v1 v4 v5 v6 u1 u2 u3 M) (Sum.elim (A_X5_trace_100_101_21 l E Q v1) (X_X5_trace_100_101_21 l E Q v1))) : V l E xX5_trace (0, 0) 90 [(0, bR 3), (1, bI v1), (2, bR 100), (3, bR 101), (4, bI v4), (5, bI v5), (6, bI v6)] [bI u3, bI u2, bI u1, bR 100] M (b_pV Q) := by
  unfold F_X5_trace_100_101_b90 at h
  obtain ⟨⟨g14, g15⟩, h⟩ := b_wp_g h
  refine v_iaddN g14 dX5_trace_90 ?_
  refine v_iastore kd_100 g15 (by decide) dX5_trace_91 ?_
  replace h := b_wp_l h
  obtain ⟨⟨g17, g18⟩, h⟩ := b_wp_g h
  refine v_aload_n (f := 3) 3 rfl dX5_trace_92 ?_
  refine v_iload (i := 4) 4 rfl dX5_trace_93 ?_
  refine v_iconst ⟨by decide, by decide⟩ dX5_trace_95 ?_
  refine v_iaddN g17 dX5_trace_96 ?_
  refine v_aload_n (f := 3) 3 rfl dX5_trace_97 ?_
  refine v_iload (i := 4) 4 rfl dX5_trace_98 ?_
  refine v_iaload kd_101 g18 (by decide) dX5_trace_100 ?_
  refine v_iload (i := 5) 5 rfl dX5_trace_101 ?_
  refine v_if_ne (tgt := 111) dX5_trace_103 (by decide) (fun c19 => ?_) (fun c19 => ?_)
  · replace h := b_wp_f c19 h
    refine v_iload (i := 5) 5 rfl dX5_trace_111 ?_
    refine v_iconst ⟨by decide, by decide⟩ dX5_trace_113 ?_
    refine v_icmp_ne (tgt := 123) dX5_trace_114 (by decide) (fun c20 => ?_) (fun c20 => ?_)
    · replace h := b_wp_f c20 h
      refine v_iconst ⟨by decide, by decide⟩ dX5_trace_123 ?_
      refine v_sub (ls2 := [(0, bR _), (1, bI _), (2, bR _), (3, bR _), (4, bI _)]) [0, 1, 2, 3, 4] rfl ?_
      exact t_X5_trace_100_101_b124 h
    · replace h := b_wp_t c20 h
      obtain ⟨g25, h⟩ := b_wp_g h
      refine v_iload (i := 6) 6 rfl dX5_trace_117 ?_
      refine v_inegN g25 dX5_trace_119 ?_
      refine v_goto (tgt := 124) dX5_trace_120 (by decide) ?_
      refine v_sub (ls2 := [(0, bR _), (1, bI _), (2, bR _), (3, bR _), (4, bI _)]) [0, 1, 2, 3, 4] rfl ?_
      exact t_X5_trace_100_101_b124 h
  · replace h := b_wp_t c19 h
    refine v_iload (i := 6) 6 rfl dX5_trace_106 ?_
    refine v_goto (tgt := 124) dX5_trace_108 (by decide) ?_
    refine v_sub (ls2 := [(0, bR _), (1, bI _), (2, bR _), (3, bR _), (4, bI _)]) [0, 1, 2, 3, 4] rfl ?_
    exact t_X5_trace_100_101_b124 h
noncomputable def F_X5_trace_100_101_s21 (v1 : Int) (v4 : Int) (M : bM) : Option ((Int × bM) ⊕ (bM)) :=
  b_g (0 ≤ v1 ∧ v1 < 60) (if (M 94 v1) ≤ v4 then (some (.inr (M))) else (if 12 ≤ v4 then (some (.inr (M))) else (b_bind (F_X5_wayOf v1 v4 M) (fun x8 => b_bind (F_X5_feetOf v1 v4 M) (fun x9 => b_g ((b_i32 (v4 + 1)) ∧ (0 ≤ v4 ∧ v4 < 13)) (if x8 = 1 then (F_X5_trace_100_101_b90 v1 v4 x8 x9 (v4 + 1) (M 100 v4) x9 M) else (if x8 = 3 then (b_g (b_i32 (-x9)) (F_X5_trace_100_101_b90 v1 v4 x8 x9 (v4 + 1) (M 100 v4) (-x9) M)) else (F_X5_trace_100_101_b90 v1 v4 x8 x9 (v4 + 1) (M 100 v4) 0 M))))))))
theorem t_X5_trace_100_101_s21 {l : Launch} {E : bE} {Q : bM → Prop} {v1 : Int} {v4 : Int} {M : bM} (h : b_wp (F_X5_trace_100_101_s21 v1 v4 M) (Sum.elim (A_X5_trace_100_101_21 l E Q v1) (X_X5_trace_100_101_21 l E Q v1))) : V l E xX5_trace (0, 0) 21 [(0, bR 3), (1, bI v1), (2, bR 100), (3, bR 101), (4, bI v4)] [] M (b_pV Q) := by
  unfold F_X5_trace_100_101_s21 at h
  obtain ⟨g5, h⟩ := b_wp_g h
  refine v_iload (i := 4) 4 rfl dX5_trace_21 ?_
  refine v_aload_n (f := 0) 0 rfl dX5_trace_23 ?_
  refine v_getR (kf := 10) (kz := 10) rfl kd_3 rfl ⟨by decide, by decide⟩ rfl wf_5_48 dX5_trace_24 ?_
  refine v_iload_n (f := 1) 1 rfl dX5_trace_27 ?_
  refine v_iaload kd_94 g5 (by decide) dX5_trace_28 ?_
  refine v_icmp_ge (tgt := 132) dX5_trace_29 (by decide) (fun c6 => ?_) (fun c6 => ?_)
  · replace h := b_wp_t c6 h
    refine v_sub (ls2 := []) [] rfl ?_
    exact h
  · replace h := b_wp_f c6 h
    refine v_iload (i := 4) 4 rfl dX5_trace_32 ?_
    refine v_bipush ⟨by decide, by decide⟩ (by decide) dX5_trace_34 ?_
    refine v_icmp_ge (tgt := 132) dX5_trace_36 (by decide) (fun c7 => ?_) (fun c7 => ?_)
    · replace h := b_wp_t c7 h
      refine v_sub (ls2 := []) [] rfl ?_
      exact h
    · replace h := b_wp_f c7 h
      refine v_aload_n (f := 0) 0 rfl dX5_trace_39 ?_
      refine v_iload_n (f := 1) 1 rfl dX5_trace_40 ?_
      refine v_iload (i := 4) 4 rfl dX5_trace_41 ?_
      refine v_cVIp (nA := 2) (As := [bI _, bI _]) (ix := 147) (cf_X5_wayOf (b_wp_b h)) rfl kd_3 rfl rfl wc_X5_wayOf wm_5_147 wi_X5_wayOf ws_X5_wayOf wn_5 ⟨by decide, by decide, by decide⟩ rfl ⟨by decide, by decide⟩ ⟨by decide, by decide⟩ (Nat.le_of_ble_eq_true rfl) dX5_trace_43 (fun x8 h => ?_)
      refine v_istore (i := 5) (ls' := [(5, bI _), (0, bR _), (1, bI _), (2, bR _), (3, bR _), (4, bI _)]) (by decide) dX5_trace_46 rfl ?_
      refine v_aload_n (f := 0) 1 rfl dX5_trace_48 ?_
      refine v_iload_n (f := 1) 2 rfl dX5_trace_49 ?_
      refine v_iload (i := 4) 5 rfl dX5_trace_50 ?_
      refine v_cVIp (nA := 2) (As := [bI _, bI _]) (ix := 150) (cf_X5_feetOf (b_wp_b h)) rfl kd_3 rfl rfl wc_X5_feetOf wm_5_150 wi_X5_feetOf ws_X5_feetOf wn_5 ⟨by decide, by decide, by decide⟩ rfl ⟨by decide, by decide⟩ ⟨by decide, by decide⟩ (Nat.le_of_ble_eq_true rfl) dX5_trace_52 (fun x9 h => ?_)
      obtain ⟨⟨g10, g11⟩, h⟩ := b_wp_g h
      refine v_istore (i := 6) (ls' := [(6, bI _), (5, bI _), (0, bR _), (1, bI _), (2, bR _), (3, bR _), (4, bI _)]) (by decide) dX5_trace_55 rfl ?_
      refine v_aload_n (f := 2) 4 rfl dX5_trace_57 ?_
      refine v_iload (i := 4) 6 rfl dX5_trace_58 ?_
      refine v_iconst ⟨by decide, by decide⟩ dX5_trace_60 ?_
      refine v_iaddN g10 dX5_trace_61 ?_
      refine v_aload_n (f := 2) 4 rfl dX5_trace_62 ?_
      refine v_iload (i := 4) 6 rfl dX5_trace_63 ?_
      refine v_iaload kd_100 g11 (by decide) dX5_trace_65 ?_
      refine v_iload (i := 5) 1 rfl dX5_trace_66 ?_
      refine v_iconst ⟨by decide, by decide⟩ dX5_trace_68 ?_
      refine v_icmp_ne (tgt := 77) dX5_trace_69 (by decide) (fun c12 => ?_) (fun c12 => ?_)
      · replace h := b_wp_f c12 h
        refine v_iload (i := 5) 1 rfl dX5_trace_77 ?_
        refine v_iconst ⟨by decide, by decide⟩ dX5_trace_79 ?_
        refine v_icmp_ne (tgt := 89) dX5_trace_80 (by decide) (fun c13 => ?_) (fun c13 => ?_)
        · replace h := b_wp_f c13 h
          refine v_iconst ⟨by decide, by decide⟩ dX5_trace_89 ?_
          refine v_sub (ls2 := [(0, bR _), (1, bI _), (2, bR _), (3, bR _), (4, bI _), (5, bI _), (6, bI _)]) [2, 3, 4, 5, 6, 1, 0] rfl ?_
          exact t_X5_trace_100_101_b90 h
        · replace h := b_wp_t c13 h
          obtain ⟨g26, h⟩ := b_wp_g h
          refine v_iload (i := 6) 0 rfl dX5_trace_83 ?_
          refine v_inegN g26 dX5_trace_85 ?_
          refine v_goto (tgt := 90) dX5_trace_86 (by decide) ?_
          refine v_sub (ls2 := [(0, bR _), (1, bI _), (2, bR _), (3, bR _), (4, bI _), (5, bI _), (6, bI _)]) [2, 3, 4, 5, 6, 1, 0] rfl ?_
          exact t_X5_trace_100_101_b90 h
      · replace h := b_wp_t c12 h
        refine v_iload (i := 6) 0 rfl dX5_trace_72 ?_
        refine v_goto (tgt := 90) dX5_trace_74 (by decide) ?_
        refine v_sub (ls2 := [(0, bR _), (1, bI _), (2, bR _), (3, bR _), (4, bI _), (5, bI _), (6, bI _)]) [2, 3, 4, 5, 6, 1, 0] rfl ?_
        exact t_X5_trace_100_101_b90 h
theorem l_X5_trace_100_101_21 {l : Launch} {E : bE} {Q : bM → Prop} {v1 : Int} {s : Int × bM} (h : b_wp (b_loop (fun t => F_X5_trace_100_101_s21 v1 t.1 t.2) s) (X_X5_trace_100_101_21 l E Q v1)) : A_X5_trace_100_101_21 l E Q v1 s := b_loop_wp (fun t h => t_X5_trace_100_101_s21 h) s h
noncomputable def F_X5_trace_100_101_b132 (M : bM) : Option (bM) :=
  some M
theorem t_X5_trace_100_101_b132 {l : Launch} {E : bE} {Q : bM → Prop} {M : bM} (h : b_wp (F_X5_trace_100_101_b132 M) (Q)) : V l E xX5_trace (0, 0) 132 [] [] M (b_pV Q) := by
  unfold F_X5_trace_100_101_b132 at h
  refine v_return rfl dX5_trace_132 ⟨by decide, by decide⟩ ?_
  exact ⟨rfl, h⟩
noncomputable def F_X5_trace_100_101 (v1 : Int) (M : bM) : Option (bM) :=
  b_g (0 ≤ v1 ∧ v1 < 60) (b_let (b_up M 100 0 (M 95 v1)) (fun M2 => b_g (0 ≤ v1 ∧ v1 < 60) (b_let (b_up M2 101 0 (M2 96 v1)) (fun M4 => b_bind (b_loop (fun t => F_X5_trace_100_101_s21 v1 t.1 t.2) (0, M4)) (fun t => F_X5_trace_100_101_b132 t)))))
theorem t_X5_trace_100_101 {l : Launch} {E : bE} {Q : bM → Prop} {v1 : Int} {M : bM} (h : b_wp (F_X5_trace_100_101 v1 M) (Q)) : V l E xX5_trace (0, 0) 0 [(0, bR 3), (1, bI v1), (2, bR 100), (3, bR 101)] [] M (b_pV Q) := by
  unfold F_X5_trace_100_101 at h
  obtain ⟨g1, h⟩ := b_wp_g h
  refine v_aload_n (f := 2) 2 rfl dX5_trace_0 ?_
  refine v_iconst ⟨by decide, by decide⟩ dX5_trace_1 ?_
  refine v_aload_n (f := 0) 0 rfl dX5_trace_2 ?_
  refine v_getR (kf := 11) (kz := 11) rfl kd_3 rfl ⟨by decide, by decide⟩ rfl wf_5_51 dX5_trace_3 ?_
  refine v_iload_n (f := 1) 1 rfl dX5_trace_6 ?_
  refine v_iaload kd_95 g1 (by decide) dX5_trace_7 ?_
  refine v_iastore kd_100 ⟨by decide, by decide⟩ (by decide) dX5_trace_8 ?_
  replace h := b_wp_l h
  obtain ⟨g3, h⟩ := b_wp_g h
  refine v_aload_n (f := 3) 3 rfl dX5_trace_9 ?_
  refine v_iconst ⟨by decide, by decide⟩ dX5_trace_10 ?_
  refine v_aload_n (f := 0) 0 rfl dX5_trace_11 ?_
  refine v_getR (kf := 12) (kz := 12) rfl kd_3 rfl ⟨by decide, by decide⟩ rfl wf_5_54 dX5_trace_12 ?_
  refine v_iload_n (f := 1) 1 rfl dX5_trace_15 ?_
  refine v_iaload kd_96 g3 (by decide) dX5_trace_16 ?_
  refine v_iastore kd_101 ⟨by decide, by decide⟩ (by decide) dX5_trace_17 ?_
  replace h := b_wp_l h
  refine v_iconst ⟨by decide, by decide⟩ dX5_trace_18 ?_
  refine v_istore (i := 4) (ls' := [(4, bI _), (0, bR _), (1, bI _), (2, bR _), (3, bR _)]) (by decide) dX5_trace_19 rfl ?_
  refine v_sub (ls2 := [(0, bR _), (1, bI _), (2, bR _), (3, bR _), (4, bI _)]) [1, 2, 3, 4, 0] rfl ?_
  refine l_X5_trace_100_101_21 (b_wp_m (fun t h => ?_) (b_wp_b h))
  show V l E xX5_trace (0, 0) 132 [] [] _ (b_pV Q)
  exact t_X5_trace_100_101_b132 h
theorem cf_X5_trace_100_101 {l : Launch} {E : bE} {M : bM} {v1 : Int} {Q : bM → Prop} (h : b_wp (F_X5_trace_100_101 v1 M) Q) : b_C l E xX5_trace yX5_trace [bR 3, bI v1, bR 100, bR 101] M (b_pV Q) := b_met (by decide) ⟨rfl, rfl⟩ (Nat.le_of_ble_eq_true rfl) (fun _ _ => t_X5_trace_100_101 h)
abbrev xX5_common : bX := ("BurntHall$Lots", prog_7_method_30_code, 4, (Option.some Jvm.ClassFile.FieldType.int), b_rm 2 0 0, 0, "common")
abbrev yX5_common : MethodName := ⟨"BurntHall$Lots", "common", "(IIII)I"⟩
theorem dX5_common_0 : decode prog_7_method_30_code 0 = .ok (.iload_n 0, 1) := by decide +kernel
theorem dX5_common_1 : decode prog_7_method_30_code 1 = .ok (.iload_n 1, 1) := by decide +kernel
theorem dX5_common_2 : decode prog_7_method_30_code 2 = .ok (.invokestatic 98, 3) := by decide +kernel
theorem dX5_common_5 : decode prog_7_method_30_code 5 = .ok (.iload_n 2, 1) := by decide +kernel
theorem dX5_common_6 : decode prog_7_method_30_code 6 = .ok (.iload_n 3, 1) := by decide +kernel
theorem dX5_common_7 : decode prog_7_method_30_code 7 = .ok (.invokestatic 98, 3) := by decide +kernel
theorem dX5_common_10 : decode prog_7_method_30_code 10 = .ok (.invokestatic 182, 3) := by decide +kernel
theorem dX5_common_13 : decode prog_7_method_30_code 13 = .ok (.iload_n 0, 1) := by decide +kernel
theorem dX5_common_14 : decode prog_7_method_30_code 14 = .ok (.iload_n 1, 1) := by decide +kernel
theorem dX5_common_15 : decode prog_7_method_30_code 15 = .ok (.invokestatic 182, 3) := by decide +kernel
theorem dX5_common_18 : decode prog_7_method_30_code 18 = .ok (.iload_n 2, 1) := by decide +kernel
theorem dX5_common_19 : decode prog_7_method_30_code 19 = .ok (.iload_n 3, 1) := by decide +kernel
theorem dX5_common_20 : decode prog_7_method_30_code 20 = .ok (.invokestatic 182, 3) := by decide +kernel
theorem dX5_common_23 : decode prog_7_method_30_code 23 = .ok (.invokestatic 98, 3) := by decide +kernel
theorem dX5_common_26 : decode prog_7_method_30_code 26 = .ok (.isub, 1) := by decide +kernel
theorem dX5_common_27 : decode prog_7_method_30_code 27 = .ok (.ireturn, 1) := by decide +kernel
noncomputable def F_X5_common (v0 : Int) (v1 : Int) (v2 : Int) (v3 : Int) (M : bM) : Option (Int) :=
  b_g (b_i32 ((min (max v0 v1) (max v2 v3)) - (max (min v0 v1) (min v2 v3)))) (some ((min (max v0 v1) (max v2 v3)) - (max (min v0 v1) (min v2 v3))))
theorem t_X5_common {l : Launch} {E : bE} {Q : Int → Prop} {v0 : Int} {v1 : Int} {v2 : Int} {v3 : Int} {M : bM} (h : b_wp (F_X5_common v0 v1 v2 v3 M) (Q)) : V l E xX5_common (0, 0) 0 [(0, bI v0), (1, bI v1), (2, bI v2), (3, bI v3)] [] M (b_pIp M Q) := by
  unfold F_X5_common at h
  obtain ⟨g1, h⟩ := b_wp_g h
  refine v_iload_n (f := 0) 0 rfl dX5_common_0 ?_
  refine v_iload_n (f := 1) 1 rfl dX5_common_1 ?_
  refine v_mmax wm_5_98 wma_max wmi wmc_max ⟨by decide, by decide⟩ ⟨by decide, by decide⟩ (Nat.le_of_ble_eq_true rfl) dX5_common_2 ?_
  refine v_iload_n (f := 2) 2 rfl dX5_common_5 ?_
  refine v_iload_n (f := 3) 3 rfl dX5_common_6 ?_
  refine v_mmax wm_5_98 wma_max wmi wmc_max ⟨by decide, by decide⟩ ⟨by decide, by decide⟩ (Nat.le_of_ble_eq_true rfl) dX5_common_7 ?_
  refine v_mmin wm_5_182 wma_min wmi wmc_min ⟨by decide, by decide⟩ ⟨by decide, by decide⟩ (Nat.le_of_ble_eq_true rfl) dX5_common_10 ?_
  refine v_iload_n (f := 0) 0 rfl dX5_common_13 ?_
  refine v_iload_n (f := 1) 1 rfl dX5_common_14 ?_
  refine v_mmin wm_5_182 wma_min wmi wmc_min ⟨by decide, by decide⟩ ⟨by decide, by decide⟩ (Nat.le_of_ble_eq_true rfl) dX5_common_15 ?_
  refine v_iload_n (f := 2) 2 rfl dX5_common_18 ?_
  refine v_iload_n (f := 3) 3 rfl dX5_common_19 ?_
  refine v_mmin wm_5_182 wma_min wmi wmc_min ⟨by decide, by decide⟩ ⟨by decide, by decide⟩ (Nat.le_of_ble_eq_true rfl) dX5_common_20 ?_
  refine v_mmax wm_5_98 wma_max wmi wmc_max ⟨by decide, by decide⟩ ⟨by decide, by decide⟩ (Nat.le_of_ble_eq_true rfl) dX5_common_23 ?_
  refine v_isubN g1 dX5_common_26 ?_
  refine v_ireturn rfl dX5_common_27 ⟨by decide, by decide⟩ ?_
  exact ⟨_, rfl, rfl, h⟩
theorem cf_X5_common {l : Launch} {E : bE} {M : bM} {v0 : Int} {v1 : Int} {v2 : Int} {v3 : Int} {Q : Int → Prop} (h : b_wp (F_X5_common v0 v1 v2 v3 M) Q) : b_C l E xX5_common yX5_common [bI v0, bI v1, bI v2, bI v3] M (b_pIp M Q) := b_met (by decide) ⟨rfl, rfl⟩ (Nat.le_of_ble_eq_true rfl) (fun _ _ => t_X5_common h)
abbrev xX5_meet : bX := ("BurntHall$Lots", prog_7_method_29_code, 3, (Option.some Jvm.ClassFile.FieldType.boolean), b_rm 3 0 0, 0, "meet")
abbrev yX5_meet : MethodName := ⟨"BurntHall$Lots", "meet", "(II)Z"⟩
theorem dX5_meet_0 : decode prog_7_method_29_code 0 = .ok (.aload_n 0, 1) := by decide +kernel
theorem dX5_meet_1 : decode prog_7_method_29_code 1 = .ok (.getfield 66, 3) := by decide +kernel
theorem dX5_meet_4 : decode prog_7_method_29_code 4 = .ok (.iload_n 1, 1) := by decide +kernel
theorem dX5_meet_5 : decode prog_7_method_29_code 5 = .ok (.iaload, 1) := by decide +kernel
theorem dX5_meet_6 : decode prog_7_method_29_code 6 = .ok (.aload_n 0, 1) := by decide +kernel
theorem dX5_meet_7 : decode prog_7_method_29_code 7 = .ok (.getfield 66, 3) := by decide +kernel
theorem dX5_meet_10 : decode prog_7_method_29_code 10 = .ok (.iload_n 1, 1) := by decide +kernel
theorem dX5_meet_11 : decode prog_7_method_29_code 11 = .ok (.iconst 1, 1) := by decide +kernel
theorem dX5_meet_12 : decode prog_7_method_29_code 12 = .ok (.iadd, 1) := by decide +kernel
theorem dX5_meet_13 : decode prog_7_method_29_code 13 = .ok (.iaload, 1) := by decide +kernel
theorem dX5_meet_14 : decode prog_7_method_29_code 14 = .ok (.aload_n 0, 1) := by decide +kernel
theorem dX5_meet_15 : decode prog_7_method_29_code 15 = .ok (.getfield 66, 3) := by decide +kernel
theorem dX5_meet_18 : decode prog_7_method_29_code 18 = .ok (.iload_n 2, 1) := by decide +kernel
theorem dX5_meet_19 : decode prog_7_method_29_code 19 = .ok (.iaload, 1) := by decide +kernel
theorem dX5_meet_20 : decode prog_7_method_29_code 20 = .ok (.aload_n 0, 1) := by decide +kernel
theorem dX5_meet_21 : decode prog_7_method_29_code 21 = .ok (.getfield 66, 3) := by decide +kernel
theorem dX5_meet_24 : decode prog_7_method_29_code 24 = .ok (.iload_n 2, 1) := by decide +kernel
theorem dX5_meet_25 : decode prog_7_method_29_code 25 = .ok (.iconst 1, 1) := by decide +kernel
theorem dX5_meet_26 : decode prog_7_method_29_code 26 = .ok (.iadd, 1) := by decide +kernel
theorem dX5_meet_27 : decode prog_7_method_29_code 27 = .ok (.iaload, 1) := by decide +kernel
theorem dX5_meet_28 : decode prog_7_method_29_code 28 = .ok (.invokestatic 178, 3) := by decide +kernel
theorem dX5_meet_31 : decode prog_7_method_29_code 31 = .ok (.ifCond .lt 41, 3) := by decide +kernel
theorem dX5_meet_34 : decode prog_7_method_29_code 34 = .ok (.aload_n 0, 1) := by decide +kernel
theorem dX5_meet_35 : decode prog_7_method_29_code 35 = .ok (.getfield 69, 3) := by decide +kernel
theorem dX5_meet_38 : decode prog_7_method_29_code 38 = .ok (.iload_n 1, 1) := by decide +kernel
theorem dX5_meet_39 : decode prog_7_method_29_code 39 = .ok (.iaload, 1) := by decide +kernel
theorem dX5_meet_40 : decode prog_7_method_29_code 40 = .ok (.aload_n 0, 1) := by decide +kernel
theorem dX5_meet_41 : decode prog_7_method_29_code 41 = .ok (.getfield 69, 3) := by decide +kernel
theorem dX5_meet_44 : decode prog_7_method_29_code 44 = .ok (.iload_n 1, 1) := by decide +kernel
theorem dX5_meet_45 : decode prog_7_method_29_code 45 = .ok (.iconst 1, 1) := by decide +kernel
theorem dX5_meet_46 : decode prog_7_method_29_code 46 = .ok (.iadd, 1) := by decide +kernel
theorem dX5_meet_47 : decode prog_7_method_29_code 47 = .ok (.iaload, 1) := by decide +kernel
theorem dX5_meet_48 : decode prog_7_method_29_code 48 = .ok (.aload_n 0, 1) := by decide +kernel
theorem dX5_meet_49 : decode prog_7_method_29_code 49 = .ok (.getfield 69, 3) := by decide +kernel
theorem dX5_meet_52 : decode prog_7_method_29_code 52 = .ok (.iload_n 2, 1) := by decide +kernel
theorem dX5_meet_53 : decode prog_7_method_29_code 53 = .ok (.iaload, 1) := by decide +kernel
theorem dX5_meet_54 : decode prog_7_method_29_code 54 = .ok (.aload_n 0, 1) := by decide +kernel
theorem dX5_meet_55 : decode prog_7_method_29_code 55 = .ok (.getfield 69, 3) := by decide +kernel
theorem dX5_meet_58 : decode prog_7_method_29_code 58 = .ok (.iload_n 2, 1) := by decide +kernel
theorem dX5_meet_59 : decode prog_7_method_29_code 59 = .ok (.iconst 1, 1) := by decide +kernel
theorem dX5_meet_60 : decode prog_7_method_29_code 60 = .ok (.iadd, 1) := by decide +kernel
theorem dX5_meet_61 : decode prog_7_method_29_code 61 = .ok (.iaload, 1) := by decide +kernel
theorem dX5_meet_62 : decode prog_7_method_29_code 62 = .ok (.invokestatic 178, 3) := by decide +kernel
theorem dX5_meet_65 : decode prog_7_method_29_code 65 = .ok (.ifCond .lt 7, 3) := by decide +kernel
theorem dX5_meet_68 : decode prog_7_method_29_code 68 = .ok (.iconst 1, 1) := by decide +kernel
theorem dX5_meet_69 : decode prog_7_method_29_code 69 = .ok (.goto 4, 3) := by decide +kernel
theorem dX5_meet_72 : decode prog_7_method_29_code 72 = .ok (.iconst 0, 1) := by decide +kernel
theorem dX5_meet_73 : decode prog_7_method_29_code 73 = .ok (.ireturn, 1) := by decide +kernel
noncomputable def F_X5_meet (v1 : Int) (v2 : Int) (M : bM) : Option (Int) :=
  b_g ((0 ≤ v1 ∧ v1 < 13) ∧ (b_i32 (v1 + 1)) ∧ (0 ≤ (v1 + 1) ∧ (v1 + 1) < 13) ∧ (0 ≤ v2 ∧ v2 < 13) ∧ (b_i32 (v2 + 1)) ∧ (0 ≤ (v2 + 1) ∧ (v2 + 1) < 13)) (b_bind (F_X5_common (M 100 v1) (M 100 (v1 + 1)) (M 100 v2) (M 100 (v2 + 1)) M) (fun x7 => if x7 < 0 then (some 0) else (b_g ((0 ≤ v1 ∧ v1 < 13) ∧ (b_i32 (v1 + 1)) ∧ (0 ≤ (v1 + 1) ∧ (v1 + 1) < 13) ∧ (0 ≤ v2 ∧ v2 < 13) ∧ (b_i32 (v2 + 1)) ∧ (0 ≤ (v2 + 1) ∧ (v2 + 1) < 13)) (b_bind (F_X5_common (M 101 v1) (M 101 (v1 + 1)) (M 101 v2) (M 101 (v2 + 1)) M) (fun x15 => if x15 < 0 then (some 0) else (some 1))))))
theorem t_X5_meet {l : Launch} {E : bE} {Q : Int → Prop} {v1 : Int} {v2 : Int} {M : bM} (h : b_wp (F_X5_meet v1 v2 M) (Q)) : V l E xX5_meet (0, 0) 0 [(0, bR 3), (1, bI v1), (2, bI v2)] [] M (b_pIp M Q) := by
  unfold F_X5_meet at h
  obtain ⟨⟨g1, g2, g3, g4, g5, g6⟩, h⟩ := b_wp_g h
  refine v_aload_n (f := 0) 0 rfl dX5_meet_0 ?_
  refine v_getR (kf := 16) (kz := 16) rfl kd_3 rfl ⟨by decide, by decide⟩ rfl wf_5_66 dX5_meet_1 ?_
  refine v_iload_n (f := 1) 1 rfl dX5_meet_4 ?_
  refine v_iaload kd_100 g1 (by decide) dX5_meet_5 ?_
  refine v_aload_n (f := 0) 0 rfl dX5_meet_6 ?_
  refine v_getR (kf := 16) (kz := 16) rfl kd_3 rfl ⟨by decide, by decide⟩ rfl wf_5_66 dX5_meet_7 ?_
  refine v_iload_n (f := 1) 1 rfl dX5_meet_10 ?_
  refine v_iconst ⟨by decide, by decide⟩ dX5_meet_11 ?_
  refine v_iaddN g2 dX5_meet_12 ?_
  refine v_iaload kd_100 g3 (by decide) dX5_meet_13 ?_
  refine v_aload_n (f := 0) 0 rfl dX5_meet_14 ?_
  refine v_getR (kf := 16) (kz := 16) rfl kd_3 rfl ⟨by decide, by decide⟩ rfl wf_5_66 dX5_meet_15 ?_
  refine v_iload_n (f := 2) 2 rfl dX5_meet_18 ?_
  refine v_iaload kd_100 g4 (by decide) dX5_meet_19 ?_
  refine v_aload_n (f := 0) 0 rfl dX5_meet_20 ?_
  refine v_getR (kf := 16) (kz := 16) rfl kd_3 rfl ⟨by decide, by decide⟩ rfl wf_5_66 dX5_meet_21 ?_
  refine v_iload_n (f := 2) 2 rfl dX5_meet_24 ?_
  refine v_iconst ⟨by decide, by decide⟩ dX5_meet_25 ?_
  refine v_iaddN g5 dX5_meet_26 ?_
  refine v_iaload kd_100 g6 (by decide) dX5_meet_27 ?_
  refine v_cSIp (nA := 4) (As := [bI _, bI _, bI _, bI _]) (ix := 178) (cf_X5_common (b_wp_b h)) rfl wc_X5_common wm_5_178 wi_X5_common wn_5 ⟨by decide, by decide, by decide⟩ rfl ⟨by decide, by decide⟩ ⟨by decide, by decide⟩ (Nat.le_of_ble_eq_true rfl) dX5_meet_28 (fun x7 h => ?_)
  refine v_if_lt (tgt := 72) dX5_meet_31 (by decide) (fun c8 => ?_) (fun c8 => ?_)
  · replace h := b_wp_t c8 h
    refine v_iconst ⟨by decide, by decide⟩ dX5_meet_72 ?_
    refine v_zreturn rfl (Or.inl rfl) dX5_meet_73 ⟨by decide, by decide⟩ ?_
    exact ⟨_, rfl, rfl, h⟩
  · replace h := b_wp_f c8 h
    obtain ⟨⟨g9, g10, g11, g12, g13, g14⟩, h⟩ := b_wp_g h
    refine v_aload_n (f := 0) 0 rfl dX5_meet_34 ?_
    refine v_getR (kf := 17) (kz := 17) rfl kd_3 rfl ⟨by decide, by decide⟩ rfl wf_5_69 dX5_meet_35 ?_
    refine v_iload_n (f := 1) 1 rfl dX5_meet_38 ?_
    refine v_iaload kd_101 g9 (by decide) dX5_meet_39 ?_
    refine v_aload_n (f := 0) 0 rfl dX5_meet_40 ?_
    refine v_getR (kf := 17) (kz := 17) rfl kd_3 rfl ⟨by decide, by decide⟩ rfl wf_5_69 dX5_meet_41 ?_
    refine v_iload_n (f := 1) 1 rfl dX5_meet_44 ?_
    refine v_iconst ⟨by decide, by decide⟩ dX5_meet_45 ?_
    refine v_iaddN g10 dX5_meet_46 ?_
    refine v_iaload kd_101 g11 (by decide) dX5_meet_47 ?_
    refine v_aload_n (f := 0) 0 rfl dX5_meet_48 ?_
    refine v_getR (kf := 17) (kz := 17) rfl kd_3 rfl ⟨by decide, by decide⟩ rfl wf_5_69 dX5_meet_49 ?_
    refine v_iload_n (f := 2) 2 rfl dX5_meet_52 ?_
    refine v_iaload kd_101 g12 (by decide) dX5_meet_53 ?_
    refine v_aload_n (f := 0) 0 rfl dX5_meet_54 ?_
    refine v_getR (kf := 17) (kz := 17) rfl kd_3 rfl ⟨by decide, by decide⟩ rfl wf_5_69 dX5_meet_55 ?_
    refine v_iload_n (f := 2) 2 rfl dX5_meet_58 ?_
    refine v_iconst ⟨by decide, by decide⟩ dX5_meet_59 ?_
    refine v_iaddN g13 dX5_meet_60 ?_
    refine v_iaload kd_101 g14 (by decide) dX5_meet_61 ?_
    refine v_cSIp (nA := 4) (As := [bI _, bI _, bI _, bI _]) (ix := 178) (cf_X5_common (b_wp_b h)) rfl wc_X5_common wm_5_178 wi_X5_common wn_5 ⟨by decide, by decide, by decide⟩ rfl ⟨by decide, by decide⟩ ⟨by decide, by decide⟩ (Nat.le_of_ble_eq_true rfl) dX5_meet_62 (fun x15 h => ?_)
    refine v_if_lt (tgt := 72) dX5_meet_65 (by decide) (fun c16 => ?_) (fun c16 => ?_)
    · replace h := b_wp_t c16 h
      refine v_iconst ⟨by decide, by decide⟩ dX5_meet_72 ?_
      refine v_zreturn rfl (Or.inl rfl) dX5_meet_73 ⟨by decide, by decide⟩ ?_
      exact ⟨_, rfl, rfl, h⟩
    · replace h := b_wp_f c16 h
      refine v_iconst ⟨by decide, by decide⟩ dX5_meet_68 ?_
      refine v_goto (tgt := 73) dX5_meet_69 (by decide) ?_
      refine v_zreturn rfl (Or.inr rfl) dX5_meet_73 ⟨by decide, by decide⟩ ?_
      exact ⟨_, rfl, rfl, h⟩
theorem cf_X5_meet {l : Launch} {E : bE} {M : bM} {v1 : Int} {v2 : Int} {Q : Int → Prop} (h : b_wp (F_X5_meet v1 v2 M) Q) : b_C l E xX5_meet yX5_meet [bR 3, bI v1, bI v2] M (b_pIp M Q) := b_met (by decide) ⟨rfl, rfl⟩ (Nat.le_of_ble_eq_true rfl) (fun _ _ => t_X5_meet h)
abbrev xX5_enclose : bX := ("BurntHall$Lots", prog_7_method_28_code, 6, (Option.some Jvm.ClassFile.FieldType.boolean), b_rm 4 0 0, 0, "enclose")
abbrev yX5_enclose : MethodName := ⟨"BurntHall$Lots", "enclose", "(I)Z"⟩
theorem dX5_enclose_0 : decode prog_7_method_28_code 0 = .ok (.aload_n 0, 1) := by decide +kernel
theorem dX5_enclose_1 : decode prog_7_method_28_code 1 = .ok (.getfield 48, 3) := by decide +kernel
theorem dX5_enclose_4 : decode prog_7_method_28_code 4 = .ok (.iload_n 1, 1) := by decide +kernel
theorem dX5_enclose_5 : decode prog_7_method_28_code 5 = .ok (.iaload, 1) := by decide +kernel
theorem dX5_enclose_6 : decode prog_7_method_28_code 6 = .ok (.istore_n 2, 1) := by decide +kernel
theorem dX5_enclose_7 : decode prog_7_method_28_code 7 = .ok (.iload_n 2, 1) := by decide +kernel
theorem dX5_enclose_8 : decode prog_7_method_28_code 8 = .ok (.iconst 4, 1) := by decide +kernel
theorem dX5_enclose_9 : decode prog_7_method_28_code 9 = .ok (.if_icmp .lt 27, 3) := by decide +kernel
theorem dX5_enclose_12 : decode prog_7_method_28_code 12 = .ok (.iload_n 2, 1) := by decide +kernel
theorem dX5_enclose_13 : decode prog_7_method_28_code 13 = .ok (.bipush 12, 2) := by decide +kernel
theorem dX5_enclose_15 : decode prog_7_method_28_code 15 = .ok (.if_icmp .gt 21, 3) := by decide +kernel
theorem dX5_enclose_18 : decode prog_7_method_28_code 18 = .ok (.aload_n 0, 1) := by decide +kernel
theorem dX5_enclose_19 : decode prog_7_method_28_code 19 = .ok (.iload_n 1, 1) := by decide +kernel
theorem dX5_enclose_20 : decode prog_7_method_28_code 20 = .ok (.iconst 0, 1) := by decide +kernel
theorem dX5_enclose_21 : decode prog_7_method_28_code 21 = .ok (.invokevirtual 156, 3) := by decide +kernel
theorem dX5_enclose_24 : decode prog_7_method_28_code 24 = .ok (.ifCond .ne 12, 3) := by decide +kernel
theorem dX5_enclose_27 : decode prog_7_method_28_code 27 = .ok (.aload_n 0, 1) := by decide +kernel
theorem dX5_enclose_28 : decode prog_7_method_28_code 28 = .ok (.iload_n 1, 1) := by decide +kernel
theorem dX5_enclose_29 : decode prog_7_method_28_code 29 = .ok (.iconst 1, 1) := by decide +kernel
theorem dX5_enclose_30 : decode prog_7_method_28_code 30 = .ok (.invokevirtual 156, 3) := by decide +kernel
theorem dX5_enclose_33 : decode prog_7_method_28_code 33 = .ok (.ifCond .eq 5, 3) := by decide +kernel
theorem dX5_enclose_36 : decode prog_7_method_28_code 36 = .ok (.iconst 0, 1) := by decide +kernel
theorem dX5_enclose_37 : decode prog_7_method_28_code 37 = .ok (.ireturn, 1) := by decide +kernel
theorem dX5_enclose_38 : decode prog_7_method_28_code 38 = .ok (.aload_n 0, 1) := by decide +kernel
theorem dX5_enclose_39 : decode prog_7_method_28_code 39 = .ok (.iload_n 1, 1) := by decide +kernel
theorem dX5_enclose_40 : decode prog_7_method_28_code 40 = .ok (.aload_n 0, 1) := by decide +kernel
theorem dX5_enclose_41 : decode prog_7_method_28_code 41 = .ok (.getfield 66, 3) := by decide +kernel
theorem dX5_enclose_44 : decode prog_7_method_28_code 44 = .ok (.aload_n 0, 1) := by decide +kernel
theorem dX5_enclose_45 : decode prog_7_method_28_code 45 = .ok (.getfield 69, 3) := by decide +kernel
theorem dX5_enclose_48 : decode prog_7_method_28_code 48 = .ok (.invokevirtual 171, 3) := by decide +kernel
theorem dX5_enclose_51 : decode prog_7_method_28_code 51 = .ok (.iconst 0, 1) := by decide +kernel
theorem dX5_enclose_52 : decode prog_7_method_28_code 52 = .ok (.istore_n 3, 1) := by decide +kernel
theorem dX5_enclose_53 : decode prog_7_method_28_code 53 = .ok (.iload_n 3, 1) := by decide +kernel
theorem dX5_enclose_54 : decode prog_7_method_28_code 54 = .ok (.iload_n 2, 1) := by decide +kernel
theorem dX5_enclose_55 : decode prog_7_method_28_code 55 = .ok (.if_icmp .ge 88, 3) := by decide +kernel
theorem dX5_enclose_58 : decode prog_7_method_28_code 58 = .ok (.iload_n 3, 1) := by decide +kernel
theorem dX5_enclose_59 : decode prog_7_method_28_code 59 = .ok (.iconst 1, 1) := by decide +kernel
theorem dX5_enclose_60 : decode prog_7_method_28_code 60 = .ok (.iadd, 1) := by decide +kernel
theorem dX5_enclose_61 : decode prog_7_method_28_code 61 = .ok (.iload_n 2, 1) := by decide +kernel
theorem dX5_enclose_62 : decode prog_7_method_28_code 62 = .ok (.if_icmp .ge 9, 3) := by decide +kernel
theorem dX5_enclose_65 : decode prog_7_method_28_code 65 = .ok (.iload_n 3, 1) := by decide +kernel
theorem dX5_enclose_66 : decode prog_7_method_28_code 66 = .ok (.iconst 1, 1) := by decide +kernel
theorem dX5_enclose_67 : decode prog_7_method_28_code 67 = .ok (.iadd, 1) := by decide +kernel
theorem dX5_enclose_68 : decode prog_7_method_28_code 68 = .ok (.goto 4, 3) := by decide +kernel
theorem dX5_enclose_71 : decode prog_7_method_28_code 71 = .ok (.iconst 0, 1) := by decide +kernel
theorem dX5_enclose_72 : decode prog_7_method_28_code 72 = .ok (.istore 4, 2) := by decide +kernel
theorem dX5_enclose_74 : decode prog_7_method_28_code 74 = .ok (.aload_n 0, 1) := by decide +kernel
theorem dX5_enclose_75 : decode prog_7_method_28_code 75 = .ok (.iload_n 1, 1) := by decide +kernel
theorem dX5_enclose_76 : decode prog_7_method_28_code 76 = .ok (.iload_n 3, 1) := by decide +kernel
theorem dX5_enclose_77 : decode prog_7_method_28_code 77 = .ok (.invokevirtual 147, 3) := by decide +kernel
theorem dX5_enclose_80 : decode prog_7_method_28_code 80 = .ok (.iconst 2, 1) := by decide +kernel
theorem dX5_enclose_81 : decode prog_7_method_28_code 81 = .ok (.irem, 1) := by decide +kernel
theorem dX5_enclose_82 : decode prog_7_method_28_code 82 = .ok (.aload_n 0, 1) := by decide +kernel
theorem dX5_enclose_83 : decode prog_7_method_28_code 83 = .ok (.iload_n 1, 1) := by decide +kernel
theorem dX5_enclose_84 : decode prog_7_method_28_code 84 = .ok (.iload 4, 2) := by decide +kernel
theorem dX5_enclose_86 : decode prog_7_method_28_code 86 = .ok (.invokevirtual 147, 3) := by decide +kernel
theorem dX5_enclose_89 : decode prog_7_method_28_code 89 = .ok (.iconst 2, 1) := by decide +kernel
theorem dX5_enclose_90 : decode prog_7_method_28_code 90 = .ok (.irem, 1) := by decide +kernel
theorem dX5_enclose_91 : decode prog_7_method_28_code 91 = .ok (.if_icmp .ne 5, 3) := by decide +kernel
theorem dX5_enclose_94 : decode prog_7_method_28_code 94 = .ok (.iconst 0, 1) := by decide +kernel
theorem dX5_enclose_95 : decode prog_7_method_28_code 95 = .ok (.ireturn, 1) := by decide +kernel
theorem dX5_enclose_96 : decode prog_7_method_28_code 96 = .ok (.iload_n 3, 1) := by decide +kernel
theorem dX5_enclose_97 : decode prog_7_method_28_code 97 = .ok (.iconst 2, 1) := by decide +kernel
theorem dX5_enclose_98 : decode prog_7_method_28_code 98 = .ok (.iadd, 1) := by decide +kernel
theorem dX5_enclose_99 : decode prog_7_method_28_code 99 = .ok (.istore 5, 2) := by decide +kernel
theorem dX5_enclose_101 : decode prog_7_method_28_code 101 = .ok (.iload 5, 2) := by decide +kernel
theorem dX5_enclose_103 : decode prog_7_method_28_code 103 = .ok (.iload_n 2, 1) := by decide +kernel
theorem dX5_enclose_104 : decode prog_7_method_28_code 104 = .ok (.if_icmp .ge 33, 3) := by decide +kernel
theorem dX5_enclose_107 : decode prog_7_method_28_code 107 = .ok (.iload_n 3, 1) := by decide +kernel
theorem dX5_enclose_108 : decode prog_7_method_28_code 108 = .ok (.ifCond .gt 11, 3) := by decide +kernel
theorem dX5_enclose_111 : decode prog_7_method_28_code 111 = .ok (.iload 5, 2) := by decide +kernel
theorem dX5_enclose_113 : decode prog_7_method_28_code 113 = .ok (.iload_n 2, 1) := by decide +kernel
theorem dX5_enclose_114 : decode prog_7_method_28_code 114 = .ok (.iconst 1, 1) := by decide +kernel
theorem dX5_enclose_115 : decode prog_7_method_28_code 115 = .ok (.isub, 1) := by decide +kernel
theorem dX5_enclose_116 : decode prog_7_method_28_code 116 = .ok (.if_icmp .ge 15, 3) := by decide +kernel
theorem dX5_enclose_119 : decode prog_7_method_28_code 119 = .ok (.aload_n 0, 1) := by decide +kernel
theorem dX5_enclose_120 : decode prog_7_method_28_code 120 = .ok (.iload_n 3, 1) := by decide +kernel
theorem dX5_enclose_121 : decode prog_7_method_28_code 121 = .ok (.iload 5, 2) := by decide +kernel
theorem dX5_enclose_123 : decode prog_7_method_28_code 123 = .ok (.invokevirtual 175, 3) := by decide +kernel
theorem dX5_enclose_126 : decode prog_7_method_28_code 126 = .ok (.ifCond .eq 5, 3) := by decide +kernel
theorem dX5_enclose_129 : decode prog_7_method_28_code 129 = .ok (.iconst 0, 1) := by decide +kernel
theorem dX5_enclose_130 : decode prog_7_method_28_code 130 = .ok (.ireturn, 1) := by decide +kernel
theorem dX5_enclose_131 : decode prog_7_method_28_code 131 = .ok (.iinc 5 1, 3) := by decide +kernel
theorem dX5_enclose_134 : decode prog_7_method_28_code 134 = .ok (.goto (-33), 3) := by decide +kernel
theorem dX5_enclose_137 : decode prog_7_method_28_code 137 = .ok (.iinc 3 1, 3) := by decide +kernel
theorem dX5_enclose_140 : decode prog_7_method_28_code 140 = .ok (.goto (-87), 3) := by decide +kernel
theorem dX5_enclose_143 : decode prog_7_method_28_code 143 = .ok (.iconst 1, 1) := by decide +kernel
theorem dX5_enclose_144 : decode prog_7_method_28_code 144 = .ok (.ireturn, 1) := by decide +kernel
abbrev A_X5_enclose_53 (l : Launch) (E : bE) (Q : (Int × bM) → Prop) (v1 : Int) (v2 : Int) (M : bM) : (Int) → Prop := (fun t : Int => V l E xX5_enclose (0, 0) 53 [(0, bR 3), (1, bI v1), (2, bI v2), (3, bI t)] [] M (b_pI Q))
abbrev X_X5_enclose_53 (l : Launch) (E : bE) (Q : (Int × bM) → Prop) (v1 : Int) (v2 : Int) (M : bM) : ((Unit) ⊕ (Int × bM)) → Prop := (Sum.elim (fun t : Unit => V l E xX5_enclose (0, 0) 143 [] [] M (b_pI Q)) Q)
abbrev A_X5_enclose_101 (l : Launch) (E : bE) (Q : (Int × bM) → Prop) (v1 : Int) (v2 : Int) (v3 : Int) (M : bM) : (Int) → Prop := (fun t : Int => V l E xX5_enclose (0, 0) 101 [(0, bR 3), (1, bI v1), (2, bI v2), (3, bI v3), (5, bI t)] [] M (b_pI Q))
abbrev X_X5_enclose_101 (l : Launch) (E : bE) (Q : (Int × bM) → Prop) (v1 : Int) (v2 : Int) (v3 : Int) (M : bM) : ((Unit) ⊕ ((Int) ⊕ ((Unit) ⊕ (Int × bM)))) → Prop := (Sum.elim (fun t : Unit => V l E xX5_enclose (0, 0) 137 [(0, bR 3), (1, bI v1), (2, bI v2), (3, bI v3)] [] M (b_pI Q)) (Sum.elim (A_X5_enclose_53 l E Q v1 v2 M) (X_X5_enclose_53 l E Q v1 v2 M)))
noncomputable def F_X5_enclose_b119 (v1 : Int) (v2 : Int) (v3 : Int) (v5 : Int) (M : bM) : Option ((Int) ⊕ ((Unit) ⊕ ((Int) ⊕ ((Unit) ⊕ (Int × bM))))) :=
  b_bind (F_X5_meet v3 v5 M) (fun x18 => if x18 = 0 then (b_g (b_i32 (v5 + 1)) (some (.inl ((v5 + 1))))) else (some (.inr (.inr (.inr (.inr (0, M)))))))
theorem t_X5_enclose_b119 {l : Launch} {E : bE} {Q : (Int × bM) → Prop} {v1 : Int} {v2 : Int} {v3 : Int} {v5 : Int} {M : bM} (h : b_wp (F_X5_enclose_b119 v1 v2 v3 v5 M) (Sum.elim (A_X5_enclose_101 l E Q v1 v2 v3 M) (X_X5_enclose_101 l E Q v1 v2 v3 M))) : V l E xX5_enclose (0, 0) 119 [(0, bR 3), (1, bI v1), (2, bI v2), (3, bI v3), (5, bI v5)] [] M (b_pI Q) := by
  unfold F_X5_enclose_b119 at h
  refine v_aload_n (f := 0) 0 rfl dX5_enclose_119 ?_
  refine v_iload_n (f := 3) 3 rfl dX5_enclose_120 ?_
  refine v_iload (i := 5) 4 rfl dX5_enclose_121 ?_
  refine v_cVIp (nA := 2) (As := [bI _, bI _]) (ix := 175) (cf_X5_meet (b_wp_b h)) rfl kd_3 rfl rfl wc_X5_meet wm_5_175 wi_X5_meet ws_X5_meet wn_5 ⟨by decide, by decide, by decide⟩ rfl ⟨by decide, by decide⟩ ⟨by decide, by decide⟩ (Nat.le_of_ble_eq_true rfl) dX5_enclose_123 (fun x18 h => ?_)
  refine v_if_eq (tgt := 131) dX5_enclose_126 (by decide) (fun c19 => ?_) (fun c19 => ?_)
  · replace h := b_wp_t c19 h
    obtain ⟨g20, h⟩ := b_wp_g h
    refine v_iincN (ls' := [(5, bI _), (0, bR _), (1, bI _), (2, bI _), (3, bI _)]) 4 rfl (by decide) g20 dX5_enclose_131 rfl ?_
    refine v_goto (tgt := 101) dX5_enclose_134 (by decide) ?_
    refine v_sub (ls2 := [(0, bR _), (1, bI _), (2, bI _), (3, bI _), (5, bI _)]) [1, 2, 3, 4, 0] rfl ?_
    exact h
  · replace h := b_wp_f c19 h
    refine v_iconst ⟨by decide, by decide⟩ dX5_enclose_129 ?_
    refine v_zreturn rfl (Or.inl rfl) dX5_enclose_130 ⟨by decide, by decide⟩ ?_
    exact ⟨_, rfl, h⟩
noncomputable def F_X5_enclose_s101 (v1 : Int) (v2 : Int) (v3 : Int) (v5 : Int) (M : bM) : Option ((Int) ⊕ ((Unit) ⊕ ((Int) ⊕ ((Unit) ⊕ (Int × bM))))) :=
  if v2 ≤ v5 then (some (.inr (.inl ()))) else (if 0 < v3 then (F_X5_enclose_b119 v1 v2 v3 v5 M) else (b_g (b_i32 (v2 - 1)) (if (v2 - 1) ≤ v5 then (b_g (b_i32 (v5 + 1)) (some (.inl ((v5 + 1))))) else (F_X5_enclose_b119 v1 v2 v3 v5 M))))
theorem t_X5_enclose_s101 {l : Launch} {E : bE} {Q : (Int × bM) → Prop} {v1 : Int} {v2 : Int} {v3 : Int} {v5 : Int} {M : bM} (h : b_wp (F_X5_enclose_s101 v1 v2 v3 v5 M) (Sum.elim (A_X5_enclose_101 l E Q v1 v2 v3 M) (X_X5_enclose_101 l E Q v1 v2 v3 M))) : V l E xX5_enclose (0, 0) 101 [(0, bR 3), (1, bI v1), (2, bI v2), (3, bI v3), (5, bI v5)] [] M (b_pI Q) := by
  unfold F_X5_enclose_s101 at h
  refine v_iload (i := 5) 4 rfl dX5_enclose_101 ?_
  refine v_iload_n (f := 2) 2 rfl dX5_enclose_103 ?_
  refine v_icmp_ge (tgt := 137) dX5_enclose_104 (by decide) (fun c16 => ?_) (fun c16 => ?_)
  · replace h := b_wp_t c16 h
    refine v_sub (ls2 := [(0, bR _), (1, bI _), (2, bI _), (3, bI _)]) [0, 1, 2, 3] rfl ?_
    exact h
  · replace h := b_wp_f c16 h
    refine v_iload_n (f := 3) 3 rfl dX5_enclose_107 ?_
    refine v_if_gt (tgt := 119) dX5_enclose_108 (by decide) (fun c17 => ?_) (fun c17 => ?_)
    · replace h := b_wp_t c17 h
      exact t_X5_enclose_b119 h
    · replace h := b_wp_f c17 h
      obtain ⟨g21, h⟩ := b_wp_g h
      refine v_iload (i := 5) 4 rfl dX5_enclose_111 ?_
      refine v_iload_n (f := 2) 2 rfl dX5_enclose_113 ?_
      refine v_iconst ⟨by decide, by decide⟩ dX5_enclose_114 ?_
      refine v_isubN g21 dX5_enclose_115 ?_
      refine v_icmp_ge (tgt := 131) dX5_enclose_116 (by decide) (fun c22 => ?_) (fun c22 => ?_)
      · replace h := b_wp_t c22 h
        obtain ⟨g23, h⟩ := b_wp_g h
        refine v_iincN (ls' := [(5, bI _), (0, bR _), (1, bI _), (2, bI _), (3, bI _)]) 4 rfl (by decide) g23 dX5_enclose_131 rfl ?_
        refine v_goto (tgt := 101) dX5_enclose_134 (by decide) ?_
        refine v_sub (ls2 := [(0, bR _), (1, bI _), (2, bI _), (3, bI _), (5, bI _)]) [1, 2, 3, 4, 0] rfl ?_
        exact h
      · replace h := b_wp_f c22 h
        exact t_X5_enclose_b119 h
theorem l_X5_enclose_101 {l : Launch} {E : bE} {Q : (Int × bM) → Prop} {v1 : Int} {v2 : Int} {v3 : Int} {M : bM} {s : Int} (h : b_wp (b_loop (fun t => F_X5_enclose_s101 v1 v2 v3 t M) s) (X_X5_enclose_101 l E Q v1 v2 v3 M)) : A_X5_enclose_101 l E Q v1 v2 v3 M s := b_loop_wp (fun t h => t_X5_enclose_s101 h) s h
noncomputable def F_X5_enclose_b137 (v1 : Int) (v2 : Int) (v3 : Int) (M : bM) : Option ((Int) ⊕ ((Unit) ⊕ (Int × bM))) :=
  b_g (b_i32 (v3 + 1)) (some (.inl ((v3 + 1))))
theorem t_X5_enclose_b137 {l : Launch} {E : bE} {Q : (Int × bM) → Prop} {v1 : Int} {v2 : Int} {v3 : Int} {M : bM} (h : b_wp (F_X5_enclose_b137 v1 v2 v3 M) (Sum.elim (A_X5_enclose_53 l E Q v1 v2 M) (X_X5_enclose_53 l E Q v1 v2 M))) : V l E xX5_enclose (0, 0) 137 [(0, bR 3), (1, bI v1), (2, bI v2), (3, bI v3)] [] M (b_pI Q) := by
  unfold F_X5_enclose_b137 at h
  obtain ⟨g24, h⟩ := b_wp_g h
  refine v_iincN (ls' := [(3, bI _), (0, bR _), (1, bI _), (2, bI _)]) 3 rfl (by decide) g24 dX5_enclose_137 rfl ?_
  refine v_goto (tgt := 53) dX5_enclose_140 (by decide) ?_
  refine v_sub (ls2 := [(0, bR _), (1, bI _), (2, bI _), (3, bI _)]) [1, 2, 3, 0] rfl ?_
  exact h
noncomputable def F_X5_enclose_b72 (v1 : Int) (v2 : Int) (v3 : Int) (u0 : Int) (M : bM) : Option ((Int) ⊕ ((Unit) ⊕ (Int × bM))) :=
  b_bind (F_X5_wayOf v1 v3 M) (fun x12 => b_bind (F_X5_wayOf v1 u0 M) (fun x13 => if (i_rem x12 2) = (i_rem x13 2) then (some (.inr (.inr (0, M)))) else (b_g (b_i32 (v3 + 2)) (b_bind (b_loop (fun t => F_X5_enclose_s101 v1 v2 v3 t M) ((v3 + 2))) (Sum.elim (fun t => F_X5_enclose_b137 v1 v2 v3 M) some)))))
theorem t_X5_enclose_b72 {l : Launch} {E : bE} {Q : (Int × bM) → Prop} {v1 : Int} {v2 : Int} {v3 : Int} {u0 : Int} {M : bM} (h : b_wp (F_X5_enclose_b72 v1 v2 v3 u0 M) (Sum.elim (A_X5_enclose_53 l E Q v1 v2 M) (X_X5_enclose_53 l E Q v1 v2 M))) : V l E xX5_enclose (0, 0) 72 [(0, bR 3), (1, bI v1), (2, bI v2), (3, bI v3)] [bI u0] M (b_pI Q) := by
  unfold F_X5_enclose_b72 at h
  refine v_istore (i := 4) (ls' := [(4, bI _), (0, bR _), (1, bI _), (2, bI _), (3, bI _)]) (by decide) dX5_enclose_72 rfl ?_
  refine v_aload_n (f := 0) 1 rfl dX5_enclose_74 ?_
  refine v_iload_n (f := 1) 2 rfl dX5_enclose_75 ?_
  refine v_iload_n (f := 3) 4 rfl dX5_enclose_76 ?_
  refine v_cVIp (nA := 2) (As := [bI _, bI _]) (ix := 147) (cf_X5_wayOf (b_wp_b h)) rfl kd_3 rfl rfl wc_X5_wayOf wm_5_147 wi_X5_wayOf ws_X5_wayOf wn_5 ⟨by decide, by decide, by decide⟩ rfl ⟨by decide, by decide⟩ ⟨by decide, by decide⟩ (Nat.le_of_ble_eq_true rfl) dX5_enclose_77 (fun x12 h => ?_)
  refine v_iconst ⟨by decide, by decide⟩ dX5_enclose_80 ?_
  refine v_irem (v := i_rem _ _) (by decide) rfl dX5_enclose_81 ?_
  refine v_aload_n (f := 0) 1 rfl dX5_enclose_82 ?_
  refine v_iload_n (f := 1) 2 rfl dX5_enclose_83 ?_
  refine v_iload (i := 4) 0 rfl dX5_enclose_84 ?_
  refine v_cVIp (nA := 2) (As := [bI _, bI _]) (ix := 147) (cf_X5_wayOf (b_wp_b h)) rfl kd_3 rfl rfl wc_X5_wayOf wm_5_147 wi_X5_wayOf ws_X5_wayOf wn_5 ⟨by decide, by decide, by decide⟩ rfl ⟨by decide, by decide⟩ ⟨by decide, by decide⟩ (Nat.le_of_ble_eq_true rfl) dX5_enclose_86 (fun x13 h => ?_)
  refine v_iconst ⟨by decide, by decide⟩ dX5_enclose_89 ?_
  refine v_irem (v := i_rem _ _) (by decide) rfl dX5_enclose_90 ?_
  refine v_icmp_ne (tgt := 96) dX5_enclose_91 (by decide) (fun c14 => ?_) (fun c14 => ?_)
  · replace h := b_wp_f c14 h
    obtain ⟨g15, h⟩ := b_wp_g h
    refine v_iload_n (f := 3) 4 rfl dX5_enclose_96 ?_
    refine v_iconst ⟨by decide, by decide⟩ dX5_enclose_97 ?_
    refine v_iaddN g15 dX5_enclose_98 ?_
    refine v_istore (i := 5) (ls' := [(5, bI _), (4, bI _), (0, bR _), (1, bI _), (2, bI _), (3, bI _)]) (by decide) dX5_enclose_99 rfl ?_
    refine v_sub (ls2 := [(0, bR _), (1, bI _), (2, bI _), (3, bI _), (5, bI _)]) [2, 3, 4, 5, 0] rfl ?_
    refine l_X5_enclose_101 (b_wp_m (fun t h => ?_) (b_wp_b h))
    cases t with
    | inr o => exact h
    | inl t =>
      show V l E xX5_enclose (0, 0) 137 [(0, bR 3), (1, bI _), (2, bI _), (3, bI _)] [] _ (b_pI Q)
      replace h := b_wp_inl h
      exact t_X5_enclose_b137 h
  · replace h := b_wp_t c14 h
    refine v_iconst ⟨by decide, by decide⟩ dX5_enclose_94 ?_
    refine v_zreturn rfl (Or.inl rfl) dX5_enclose_95 ⟨by decide, by decide⟩ ?_
    exact ⟨_, rfl, h⟩
noncomputable def F_X5_enclose_s53 (v1 : Int) (v2 : Int) (v3 : Int) (M : bM) : Option ((Int) ⊕ ((Unit) ⊕ (Int × bM))) :=
  if v2 ≤ v3 then (some (.inr (.inl ()))) else (b_g (b_i32 (v3 + 1)) (if v2 ≤ (v3 + 1) then (F_X5_enclose_b72 v1 v2 v3 0 M) else (b_g (b_i32 (v3 + 1)) (F_X5_enclose_b72 v1 v2 v3 (v3 + 1) M))))
theorem t_X5_enclose_s53 {l : Launch} {E : bE} {Q : (Int × bM) → Prop} {v1 : Int} {v2 : Int} {v3 : Int} {M : bM} (h : b_wp (F_X5_enclose_s53 v1 v2 v3 M) (Sum.elim (A_X5_enclose_53 l E Q v1 v2 M) (X_X5_enclose_53 l E Q v1 v2 M))) : V l E xX5_enclose (0, 0) 53 [(0, bR 3), (1, bI v1), (2, bI v2), (3, bI v3)] [] M (b_pI Q) := by
  unfold F_X5_enclose_s53 at h
  refine v_iload_n (f := 3) 3 rfl dX5_enclose_53 ?_
  refine v_iload_n (f := 2) 2 rfl dX5_enclose_54 ?_
  refine v_icmp_ge (tgt := 143) dX5_enclose_55 (by decide) (fun c9 => ?_) (fun c9 => ?_)
  · replace h := b_wp_t c9 h
    refine v_sub (ls2 := []) [] rfl ?_
    exact h
  · replace h := b_wp_f c9 h
    obtain ⟨g10, h⟩ := b_wp_g h
    refine v_iload_n (f := 3) 3 rfl dX5_enclose_58 ?_
    refine v_iconst ⟨by decide, by decide⟩ dX5_enclose_59 ?_
    refine v_iaddN g10 dX5_enclose_60 ?_
    refine v_iload_n (f := 2) 2 rfl dX5_enclose_61 ?_
    refine v_icmp_ge (tgt := 71) dX5_enclose_62 (by decide) (fun c11 => ?_) (fun c11 => ?_)
    · replace h := b_wp_t c11 h
      refine v_iconst ⟨by decide, by decide⟩ dX5_enclose_71 ?_
      exact t_X5_enclose_b72 h
    · replace h := b_wp_f c11 h
      obtain ⟨g25, h⟩ := b_wp_g h
      refine v_iload_n (f := 3) 3 rfl dX5_enclose_65 ?_
      refine v_iconst ⟨by decide, by decide⟩ dX5_enclose_66 ?_
      refine v_iaddN g25 dX5_enclose_67 ?_
      refine v_goto (tgt := 72) dX5_enclose_68 (by decide) ?_
      exact t_X5_enclose_b72 h
theorem l_X5_enclose_53 {l : Launch} {E : bE} {Q : (Int × bM) → Prop} {v1 : Int} {v2 : Int} {M : bM} {s : Int} (h : b_wp (b_loop (fun t => F_X5_enclose_s53 v1 v2 t M) s) (X_X5_enclose_53 l E Q v1 v2 M)) : A_X5_enclose_53 l E Q v1 v2 M s := b_loop_wp (fun t h => t_X5_enclose_s53 h) s h
noncomputable def F_X5_enclose_b143 (M : bM) : Option (Int × bM) :=
  some (1, M)
theorem t_X5_enclose_b143 {l : Launch} {E : bE} {Q : (Int × bM) → Prop} {M : bM} (h : b_wp (F_X5_enclose_b143 M) (Q)) : V l E xX5_enclose (0, 0) 143 [] [] M (b_pI Q) := by
  unfold F_X5_enclose_b143 at h
  refine v_iconst ⟨by decide, by decide⟩ dX5_enclose_143 ?_
  refine v_zreturn rfl (Or.inr rfl) dX5_enclose_144 ⟨by decide, by decide⟩ ?_
  exact ⟨_, rfl, h⟩
noncomputable def F_X5_enclose (v1 : Int) (M : bM) : Option (Int × bM) :=
  b_g (0 ≤ v1 ∧ v1 < 60) (if (M 94 v1) < 4 then (some (0, M)) else (if 12 < (M 94 v1) then (some (0, M)) else (b_bind (F_X5_miss v1 0 M) (fun x4 => if x4 = 0 then (b_bind (F_X5_miss v1 1 M) (fun x6 => if x6 = 0 then (b_bind (F_X5_trace_100_101 v1 M) (fun M8 => b_bind (b_loop (fun t => F_X5_enclose_s53 v1 (M 94 v1) t M8) (0)) (Sum.elim (fun t => F_X5_enclose_b143 M8) some))) else (some (0, M)))) else (some (0, M))))))
theorem t_X5_enclose {l : Launch} {E : bE} {Q : (Int × bM) → Prop} {v1 : Int} {M : bM} (h : b_wp (F_X5_enclose v1 M) (Q)) : V l E xX5_enclose (0, 0) 0 [(0, bR 3), (1, bI v1)] [] M (b_pI Q) := by
  unfold F_X5_enclose at h
  obtain ⟨g1, h⟩ := b_wp_g h
  refine v_aload_n (f := 0) 0 rfl dX5_enclose_0 ?_
  refine v_getR (kf := 10) (kz := 10) rfl kd_3 rfl ⟨by decide, by decide⟩ rfl wf_5_48 dX5_enclose_1 ?_
  refine v_iload_n (f := 1) 1 rfl dX5_enclose_4 ?_
  refine v_iaload kd_94 g1 (by decide) dX5_enclose_5 ?_
  refine v_istore_n (g := 2) (i := 2) (ls' := [(2, bI _), (0, bR _), (1, bI _)]) rfl (by decide) dX5_enclose_6 rfl ?_
  refine v_iload_n (f := 2) 0 rfl dX5_enclose_7 ?_
  refine v_iconst ⟨by decide, by decide⟩ dX5_enclose_8 ?_
  refine v_icmp_lt (tgt := 36) dX5_enclose_9 (by decide) (fun c2 => ?_) (fun c2 => ?_)
  · replace h := b_wp_t c2 h
    refine v_iconst ⟨by decide, by decide⟩ dX5_enclose_36 ?_
    refine v_zreturn rfl (Or.inl rfl) dX5_enclose_37 ⟨by decide, by decide⟩ ?_
    exact ⟨_, rfl, h⟩
  · replace h := b_wp_f c2 h
    refine v_iload_n (f := 2) 0 rfl dX5_enclose_12 ?_
    refine v_bipush ⟨by decide, by decide⟩ (by decide) dX5_enclose_13 ?_
    refine v_icmp_gt (tgt := 36) dX5_enclose_15 (by decide) (fun c3 => ?_) (fun c3 => ?_)
    · replace h := b_wp_t c3 h
      refine v_iconst ⟨by decide, by decide⟩ dX5_enclose_36 ?_
      refine v_zreturn rfl (Or.inl rfl) dX5_enclose_37 ⟨by decide, by decide⟩ ?_
      exact ⟨_, rfl, h⟩
    · replace h := b_wp_f c3 h
      refine v_aload_n (f := 0) 1 rfl dX5_enclose_18 ?_
      refine v_iload_n (f := 1) 2 rfl dX5_enclose_19 ?_
      refine v_iconst ⟨by decide, by decide⟩ dX5_enclose_20 ?_
      refine v_cVIp (nA := 2) (As := [bI _, bI _]) (ix := 156) (cf_X5_miss (b_wp_b h)) rfl kd_3 rfl rfl wc_X5_miss wm_5_156 wi_X5_miss ws_X5_miss wn_5 ⟨by decide, by decide, by decide⟩ rfl ⟨by decide, by decide⟩ ⟨by decide, by decide⟩ (Nat.le_of_ble_eq_true rfl) dX5_enclose_21 (fun x4 h => ?_)
      refine v_if_ne (tgt := 36) dX5_enclose_24 (by decide) (fun c5 => ?_) (fun c5 => ?_)
      · replace h := b_wp_f c5 h
        refine v_iconst ⟨by decide, by decide⟩ dX5_enclose_36 ?_
        refine v_zreturn rfl (Or.inl rfl) dX5_enclose_37 ⟨by decide, by decide⟩ ?_
        exact ⟨_, rfl, h⟩
      · replace h := b_wp_t c5 h
        refine v_aload_n (f := 0) 1 rfl dX5_enclose_27 ?_
        refine v_iload_n (f := 1) 2 rfl dX5_enclose_28 ?_
        refine v_iconst ⟨by decide, by decide⟩ dX5_enclose_29 ?_
        refine v_cVIp (nA := 2) (As := [bI _, bI _]) (ix := 156) (cf_X5_miss (b_wp_b h)) rfl kd_3 rfl rfl wc_X5_miss wm_5_156 wi_X5_miss ws_X5_miss wn_5 ⟨by decide, by decide, by decide⟩ rfl ⟨by decide, by decide⟩ ⟨by decide, by decide⟩ (Nat.le_of_ble_eq_true rfl) dX5_enclose_30 (fun x6 h => ?_)
        refine v_if_eq (tgt := 38) dX5_enclose_33 (by decide) (fun c7 => ?_) (fun c7 => ?_)
        · replace h := b_wp_t c7 h
          refine v_aload_n (f := 0) 1 rfl dX5_enclose_38 ?_
          refine v_iload_n (f := 1) 2 rfl dX5_enclose_39 ?_
          refine v_aload_n (f := 0) 1 rfl dX5_enclose_40 ?_
          refine v_getR (kf := 16) (kz := 16) rfl kd_3 rfl ⟨by decide, by decide⟩ rfl wf_5_66 dX5_enclose_41 ?_
          refine v_aload_n (f := 0) 1 rfl dX5_enclose_44 ?_
          refine v_getR (kf := 17) (kz := 17) rfl kd_3 rfl ⟨by decide, by decide⟩ rfl wf_5_69 dX5_enclose_45 ?_
          refine v_cVV (nA := 3) (As := [bI _, bR _, bR _]) (ix := 171) (cf_X5_trace_100_101 (b_wp_b h)) rfl kd_3 rfl rfl wc_X5_trace wm_5_171 wi_X5_trace ws_X5_trace wn_5 ⟨by decide, by decide, by decide⟩ rfl ⟨by decide, by decide⟩ ⟨by decide, by decide⟩ (Nat.le_of_ble_eq_true rfl) dX5_enclose_48 (fun M8 h => ?_)
          refine v_iconst ⟨by decide, by decide⟩ dX5_enclose_51 ?_
          refine v_istore_n (g := 3) (i := 3) (ls' := [(3, bI _), (2, bI _), (0, bR _), (1, bI _)]) rfl (by decide) dX5_enclose_52 rfl ?_
          refine v_sub (ls2 := [(0, bR _), (1, bI _), (2, bI _), (3, bI _)]) [2, 3, 1, 0] rfl ?_
          refine l_X5_enclose_53 (b_wp_m (fun t h => ?_) (b_wp_b h))
          cases t with
          | inr o => exact h
          | inl t =>
            show V l E xX5_enclose (0, 0) 143 [] [] _ (b_pI Q)
            replace h := b_wp_inl h
            exact t_X5_enclose_b143 h
        · replace h := b_wp_f c7 h
          refine v_iconst ⟨by decide, by decide⟩ dX5_enclose_36 ?_
          refine v_zreturn rfl (Or.inl rfl) dX5_enclose_37 ⟨by decide, by decide⟩ ?_
          exact ⟨_, rfl, h⟩
theorem cf_X5_enclose {l : Launch} {E : bE} {M : bM} {v1 : Int} {Q : (Int × bM) → Prop} (h : b_wp (F_X5_enclose v1 M) Q) : b_C l E xX5_enclose yX5_enclose [bR 3, bI v1] M (b_pI Q) := b_met (by decide) ⟨rfl, rfl⟩ (Nat.le_of_ble_eq_true rfl) (fun _ _ => t_X5_enclose h)
abbrev A_X5_trace_102_103_21 (l : Launch) (E : bE) (Q : bM → Prop) (v1 : Int) : (Int × bM) → Prop := (fun t : Int × bM => V l E xX5_trace (0, 0) 21 [(0, bR 3), (1, bI v1), (2, bR 102), (3, bR 103), (4, bI (t.1))] [] t.2 (b_pV Q))
abbrev X_X5_trace_102_103_21 (l : Launch) (E : bE) (Q : bM → Prop) (v1 : Int) : (bM) → Prop := (fun t : bM => V l E xX5_trace (0, 0) 132 [] [] t (b_pV Q))
noncomputable def F_X5_trace_102_103_b124 (v1 : Int) (v4 : Int) (u1 : Int) (u2 : Int) (u3 : Int) (M : bM) : Option ((Int × bM) ⊕ (bM)) :=
  b_g ((b_i32 (u2 + u3)) ∧ (0 ≤ u1 ∧ u1 < 13)) (b_let (b_up M 103 u1 (u2 + u3)) (fun M23 => b_g (b_i32 (v4 + 1)) (some (.inl ((v4 + 1), M23)))))
theorem t_X5_trace_102_103_b124 {l : Launch} {E : bE} {Q : bM → Prop} {v1 : Int} {v4 : Int} {u1 : Int} {u2 : Int} {u3 : Int} {M : bM} (h : b_wp (F_X5_trace_102_103_b124 v1 v4 u1 u2 u3 M) (Sum.elim (A_X5_trace_102_103_21 l E Q v1) (X_X5_trace_102_103_21 l E Q v1))) : V l E xX5_trace (0, 0) 124 [(0, bR 3), (1, bI v1), (2, bR 102), (3, bR 103), (4, bI v4)] [bI u3, bI u2, bI u1, bR 103] M (b_pV Q) := by
  unfold F_X5_trace_102_103_b124 at h
  obtain ⟨⟨g21, g22⟩, h⟩ := b_wp_g h
  refine v_iaddN g21 dX5_trace_124 ?_
  refine v_iastore kd_103 g22 (by decide) dX5_trace_125 ?_
  replace h := b_wp_l h
  obtain ⟨g24, h⟩ := b_wp_g h
  refine v_iincN (ls' := [(4, bI _), (0, bR _), (1, bI _), (2, bR _), (3, bR _)]) 4 rfl (by decide) g24 dX5_trace_126 rfl ?_
  refine v_goto (tgt := 21) dX5_trace_129 (by decide) ?_
  refine v_sub (ls2 := [(0, bR _), (1, bI _), (2, bR _), (3, bR _), (4, bI _)]) [1, 2, 3, 4, 0] rfl ?_
  exact h
noncomputable def F_X5_trace_102_103_b90 (v1 : Int) (v4 : Int) (v5 : Int) (v6 : Int) (u1 : Int) (u2 : Int) (u3 : Int) (M : bM) : Option ((Int × bM) ⊕ (bM)) :=
  b_g ((b_i32 (u2 + u3)) ∧ (0 ≤ u1 ∧ u1 < 13)) (b_let (b_up M 102 u1 (u2 + u3)) (fun M16 => b_g ((b_i32 (v4 + 1)) ∧ (0 ≤ v4 ∧ v4 < 13)) (if v5 = 0 then (F_X5_trace_102_103_b124 v1 v4 (v4 + 1) (M16 103 v4) v6 M16) else (if v5 = 2 then (b_g (b_i32 (-v6)) (F_X5_trace_102_103_b124 v1 v4 (v4 + 1) (M16 103 v4) (-v6) M16)) else (F_X5_trace_102_103_b124 v1 v4 (v4 + 1) (M16 103 v4) 0 M16)))))
theorem t_X5_trace_102_103_b90 {l : Launch} {E : bE} {Q : bM → Prop} {v1 : Int} {v4 : Int} {v5 : Int} {v6 : Int} {u1 : Int} {u2 : Int} {u3 : Int} {M : bM} (h : b_wp (F_X5_trace_102_103_b90 v1 v4 v5 v6 u1 u2 u3 M) (Sum.elim (A_X5_trace_102_103_21 l E Q v1) (X_X5_trace_102_103_21 l E Q v1))) : V l E xX5_trace (0, 0) 90 [(0, bR 3), (1, bI v1), (2, bR 102), (3, bR 103), (4, bI v4), (5, bI v5), (6, bI v6)] [bI u3, bI u2, bI u1, bR 102] M (b_pV Q) := by
  unfold F_X5_trace_102_103_b90 at h
  obtain ⟨⟨g14, g15⟩, h⟩ := b_wp_g h
  refine v_iaddN g14 dX5_trace_90 ?_
  refine v_iastore kd_102 g15 (by decide) dX5_trace_91 ?_
  replace h := b_wp_l h
  obtain ⟨⟨g17, g18⟩, h⟩ := b_wp_g h
  refine v_aload_n (f := 3) 3 rfl dX5_trace_92 ?_
  refine v_iload (i := 4) 4 rfl dX5_trace_93 ?_
  refine v_iconst ⟨by decide, by decide⟩ dX5_trace_95 ?_
  refine v_iaddN g17 dX5_trace_96 ?_
  refine v_aload_n (f := 3) 3 rfl dX5_trace_97 ?_
  refine v_iload (i := 4) 4 rfl dX5_trace_98 ?_
  refine v_iaload kd_103 g18 (by decide) dX5_trace_100 ?_
  refine v_iload (i := 5) 5 rfl dX5_trace_101 ?_
  refine v_if_ne (tgt := 111) dX5_trace_103 (by decide) (fun c19 => ?_) (fun c19 => ?_)
  · replace h := b_wp_f c19 h
    refine v_iload (i := 5) 5 rfl dX5_trace_111 ?_
    refine v_iconst ⟨by decide, by decide⟩ dX5_trace_113 ?_
    refine v_icmp_ne (tgt := 123) dX5_trace_114 (by decide) (fun c20 => ?_) (fun c20 => ?_)
    · replace h := b_wp_f c20 h
      refine v_iconst ⟨by decide, by decide⟩ dX5_trace_123 ?_
      refine v_sub (ls2 := [(0, bR _), (1, bI _), (2, bR _), (3, bR _), (4, bI _)]) [0, 1, 2, 3, 4] rfl ?_
      exact t_X5_trace_102_103_b124 h
    · replace h := b_wp_t c20 h
      obtain ⟨g25, h⟩ := b_wp_g h
      refine v_iload (i := 6) 6 rfl dX5_trace_117 ?_
      refine v_inegN g25 dX5_trace_119 ?_
      refine v_goto (tgt := 124) dX5_trace_120 (by decide) ?_
      refine v_sub (ls2 := [(0, bR _), (1, bI _), (2, bR _), (3, bR _), (4, bI _)]) [0, 1, 2, 3, 4] rfl ?_
      exact t_X5_trace_102_103_b124 h
  · replace h := b_wp_t c19 h
    refine v_iload (i := 6) 6 rfl dX5_trace_106 ?_
    refine v_goto (tgt := 124) dX5_trace_108 (by decide) ?_
    refine v_sub (ls2 := [(0, bR _), (1, bI _), (2, bR _), (3, bR _), (4, bI _)]) [0, 1, 2, 3, 4] rfl ?_
    exact t_X5_trace_102_103_b124 h
noncomputable def F_X5_trace_102_103_s21 (v1 : Int) (v4 : Int) (M : bM) : Option ((Int × bM) ⊕ (bM)) :=
  b_g (0 ≤ v1 ∧ v1 < 60) (if (M 94 v1) ≤ v4 then (some (.inr (M))) else (if 12 ≤ v4 then (some (.inr (M))) else (b_bind (F_X5_wayOf v1 v4 M) (fun x8 => b_bind (F_X5_feetOf v1 v4 M) (fun x9 => b_g ((b_i32 (v4 + 1)) ∧ (0 ≤ v4 ∧ v4 < 13)) (if x8 = 1 then (F_X5_trace_102_103_b90 v1 v4 x8 x9 (v4 + 1) (M 102 v4) x9 M) else (if x8 = 3 then (b_g (b_i32 (-x9)) (F_X5_trace_102_103_b90 v1 v4 x8 x9 (v4 + 1) (M 102 v4) (-x9) M)) else (F_X5_trace_102_103_b90 v1 v4 x8 x9 (v4 + 1) (M 102 v4) 0 M))))))))
theorem t_X5_trace_102_103_s21 {l : Launch} {E : bE} {Q : bM → Prop} {v1 : Int} {v4 : Int} {M : bM} (h : b_wp (F_X5_trace_102_103_s21 v1 v4 M) (Sum.elim (A_X5_trace_102_103_21 l E Q v1) (X_X5_trace_102_103_21 l E Q v1))) : V l E xX5_trace (0, 0) 21 [(0, bR 3), (1, bI v1), (2, bR 102), (3, bR 103), (4, bI v4)] [] M (b_pV Q) := by
  unfold F_X5_trace_102_103_s21 at h
  obtain ⟨g5, h⟩ := b_wp_g h
  refine v_iload (i := 4) 4 rfl dX5_trace_21 ?_
  refine v_aload_n (f := 0) 0 rfl dX5_trace_23 ?_
  refine v_getR (kf := 10) (kz := 10) rfl kd_3 rfl ⟨by decide, by decide⟩ rfl wf_5_48 dX5_trace_24 ?_
  refine v_iload_n (f := 1) 1 rfl dX5_trace_27 ?_
  refine v_iaload kd_94 g5 (by decide) dX5_trace_28 ?_
  refine v_icmp_ge (tgt := 132) dX5_trace_29 (by decide) (fun c6 => ?_) (fun c6 => ?_)
  · replace h := b_wp_t c6 h
    refine v_sub (ls2 := []) [] rfl ?_
    exact h
  · replace h := b_wp_f c6 h
    refine v_iload (i := 4) 4 rfl dX5_trace_32 ?_
    refine v_bipush ⟨by decide, by decide⟩ (by decide) dX5_trace_34 ?_
    refine v_icmp_ge (tgt := 132) dX5_trace_36 (by decide) (fun c7 => ?_) (fun c7 => ?_)
    · replace h := b_wp_t c7 h
      refine v_sub (ls2 := []) [] rfl ?_
      exact h
    · replace h := b_wp_f c7 h
      refine v_aload_n (f := 0) 0 rfl dX5_trace_39 ?_
      refine v_iload_n (f := 1) 1 rfl dX5_trace_40 ?_
      refine v_iload (i := 4) 4 rfl dX5_trace_41 ?_
      refine v_cVIp (nA := 2) (As := [bI _, bI _]) (ix := 147) (cf_X5_wayOf (b_wp_b h)) rfl kd_3 rfl rfl wc_X5_wayOf wm_5_147 wi_X5_wayOf ws_X5_wayOf wn_5 ⟨by decide, by decide, by decide⟩ rfl ⟨by decide, by decide⟩ ⟨by decide, by decide⟩ (Nat.le_of_ble_eq_true rfl) dX5_trace_43 (fun x8 h => ?_)
      refine v_istore (i := 5) (ls' := [(5, bI _), (0, bR _), (1, bI _), (2, bR _), (3, bR _), (4, bI _)]) (by decide) dX5_trace_46 rfl ?_
      refine v_aload_n (f := 0) 1 rfl dX5_trace_48 ?_
      refine v_iload_n (f := 1) 2 rfl dX5_trace_49 ?_
      refine v_iload (i := 4) 5 rfl dX5_trace_50 ?_
      refine v_cVIp (nA := 2) (As := [bI _, bI _]) (ix := 150) (cf_X5_feetOf (b_wp_b h)) rfl kd_3 rfl rfl wc_X5_feetOf wm_5_150 wi_X5_feetOf ws_X5_feetOf wn_5 ⟨by decide, by decide, by decide⟩ rfl ⟨by decide, by decide⟩ ⟨by decide, by decide⟩ (Nat.le_of_ble_eq_true rfl) dX5_trace_52 (fun x9 h => ?_)
      obtain ⟨⟨g10, g11⟩, h⟩ := b_wp_g h
      refine v_istore (i := 6) (ls' := [(6, bI _), (5, bI _), (0, bR _), (1, bI _), (2, bR _), (3, bR _), (4, bI _)]) (by decide) dX5_trace_55 rfl ?_
      refine v_aload_n (f := 2) 4 rfl dX5_trace_57 ?_
      refine v_iload (i := 4) 6 rfl dX5_trace_58 ?_
      refine v_iconst ⟨by decide, by decide⟩ dX5_trace_60 ?_
      refine v_iaddN g10 dX5_trace_61 ?_
      refine v_aload_n (f := 2) 4 rfl dX5_trace_62 ?_
      refine v_iload (i := 4) 6 rfl dX5_trace_63 ?_
      refine v_iaload kd_102 g11 (by decide) dX5_trace_65 ?_
      refine v_iload (i := 5) 1 rfl dX5_trace_66 ?_
      refine v_iconst ⟨by decide, by decide⟩ dX5_trace_68 ?_
      refine v_icmp_ne (tgt := 77) dX5_trace_69 (by decide) (fun c12 => ?_) (fun c12 => ?_)
      · replace h := b_wp_f c12 h
        refine v_iload (i := 5) 1 rfl dX5_trace_77 ?_
        refine v_iconst ⟨by decide, by decide⟩ dX5_trace_79 ?_
        refine v_icmp_ne (tgt := 89) dX5_trace_80 (by decide) (fun c13 => ?_) (fun c13 => ?_)
        · replace h := b_wp_f c13 h
          refine v_iconst ⟨by decide, by decide⟩ dX5_trace_89 ?_
          refine v_sub (ls2 := [(0, bR _), (1, bI _), (2, bR _), (3, bR _), (4, bI _), (5, bI _), (6, bI _)]) [2, 3, 4, 5, 6, 1, 0] rfl ?_
          exact t_X5_trace_102_103_b90 h
        · replace h := b_wp_t c13 h
          obtain ⟨g26, h⟩ := b_wp_g h
          refine v_iload (i := 6) 0 rfl dX5_trace_83 ?_
          refine v_inegN g26 dX5_trace_85 ?_
          refine v_goto (tgt := 90) dX5_trace_86 (by decide) ?_
          refine v_sub (ls2 := [(0, bR _), (1, bI _), (2, bR _), (3, bR _), (4, bI _), (5, bI _), (6, bI _)]) [2, 3, 4, 5, 6, 1, 0] rfl ?_
          exact t_X5_trace_102_103_b90 h
      · replace h := b_wp_t c12 h
        refine v_iload (i := 6) 0 rfl dX5_trace_72 ?_
        refine v_goto (tgt := 90) dX5_trace_74 (by decide) ?_
        refine v_sub (ls2 := [(0, bR _), (1, bI _), (2, bR _), (3, bR _), (4, bI _), (5, bI _), (6, bI _)]) [2, 3, 4, 5, 6, 1, 0] rfl ?_
        exact t_X5_trace_102_103_b90 h
theorem l_X5_trace_102_103_21 {l : Launch} {E : bE} {Q : bM → Prop} {v1 : Int} {s : Int × bM} (h : b_wp (b_loop (fun t => F_X5_trace_102_103_s21 v1 t.1 t.2) s) (X_X5_trace_102_103_21 l E Q v1)) : A_X5_trace_102_103_21 l E Q v1 s := b_loop_wp (fun t h => t_X5_trace_102_103_s21 h) s h
noncomputable def F_X5_trace_102_103_b132 (M : bM) : Option (bM) :=
  some M
theorem t_X5_trace_102_103_b132 {l : Launch} {E : bE} {Q : bM → Prop} {M : bM} (h : b_wp (F_X5_trace_102_103_b132 M) (Q)) : V l E xX5_trace (0, 0) 132 [] [] M (b_pV Q) := by
  unfold F_X5_trace_102_103_b132 at h
  refine v_return rfl dX5_trace_132 ⟨by decide, by decide⟩ ?_
  exact ⟨rfl, h⟩
noncomputable def F_X5_trace_102_103 (v1 : Int) (M : bM) : Option (bM) :=
  b_g (0 ≤ v1 ∧ v1 < 60) (b_let (b_up M 102 0 (M 95 v1)) (fun M2 => b_g (0 ≤ v1 ∧ v1 < 60) (b_let (b_up M2 103 0 (M2 96 v1)) (fun M4 => b_bind (b_loop (fun t => F_X5_trace_102_103_s21 v1 t.1 t.2) (0, M4)) (fun t => F_X5_trace_102_103_b132 t)))))
theorem t_X5_trace_102_103 {l : Launch} {E : bE} {Q : bM → Prop} {v1 : Int} {M : bM} (h : b_wp (F_X5_trace_102_103 v1 M) (Q)) : V l E xX5_trace (0, 0) 0 [(0, bR 3), (1, bI v1), (2, bR 102), (3, bR 103)] [] M (b_pV Q) := by
  unfold F_X5_trace_102_103 at h
  obtain ⟨g1, h⟩ := b_wp_g h
  refine v_aload_n (f := 2) 2 rfl dX5_trace_0 ?_
  refine v_iconst ⟨by decide, by decide⟩ dX5_trace_1 ?_
  refine v_aload_n (f := 0) 0 rfl dX5_trace_2 ?_
  refine v_getR (kf := 11) (kz := 11) rfl kd_3 rfl ⟨by decide, by decide⟩ rfl wf_5_51 dX5_trace_3 ?_
  refine v_iload_n (f := 1) 1 rfl dX5_trace_6 ?_
  refine v_iaload kd_95 g1 (by decide) dX5_trace_7 ?_
  refine v_iastore kd_102 ⟨by decide, by decide⟩ (by decide) dX5_trace_8 ?_
  replace h := b_wp_l h
  obtain ⟨g3, h⟩ := b_wp_g h
  refine v_aload_n (f := 3) 3 rfl dX5_trace_9 ?_
  refine v_iconst ⟨by decide, by decide⟩ dX5_trace_10 ?_
  refine v_aload_n (f := 0) 0 rfl dX5_trace_11 ?_
  refine v_getR (kf := 12) (kz := 12) rfl kd_3 rfl ⟨by decide, by decide⟩ rfl wf_5_54 dX5_trace_12 ?_
  refine v_iload_n (f := 1) 1 rfl dX5_trace_15 ?_
  refine v_iaload kd_96 g3 (by decide) dX5_trace_16 ?_
  refine v_iastore kd_103 ⟨by decide, by decide⟩ (by decide) dX5_trace_17 ?_
  replace h := b_wp_l h
  refine v_iconst ⟨by decide, by decide⟩ dX5_trace_18 ?_
  refine v_istore (i := 4) (ls' := [(4, bI _), (0, bR _), (1, bI _), (2, bR _), (3, bR _)]) (by decide) dX5_trace_19 rfl ?_
  refine v_sub (ls2 := [(0, bR _), (1, bI _), (2, bR _), (3, bR _), (4, bI _)]) [1, 2, 3, 4, 0] rfl ?_
  refine l_X5_trace_102_103_21 (b_wp_m (fun t h => ?_) (b_wp_b h))
  show V l E xX5_trace (0, 0) 132 [] [] _ (b_pV Q)
  exact t_X5_trace_102_103_b132 h
theorem cf_X5_trace_102_103 {l : Launch} {E : bE} {M : bM} {v1 : Int} {Q : bM → Prop} (h : b_wp (F_X5_trace_102_103 v1 M) Q) : b_C l E xX5_trace yX5_trace [bR 3, bI v1, bR 102, bR 103] M (b_pV Q) := b_met (by decide) ⟨rfl, rfl⟩ (Nat.le_of_ble_eq_true rfl) (fun _ _ => t_X5_trace_102_103 h)
abbrev xX5_within : bX := ("BurntHall$Lots", prog_7_method_31_code, 8, (Option.some Jvm.ClassFile.FieldType.int), b_rm 3 0 0, 0, "within")
abbrev yX5_within : MethodName := ⟨"BurntHall$Lots", "within", "(II)I"⟩
theorem dX5_within_0 : decode prog_7_method_31_code 0 = .ok (.aload_n 0, 1) := by decide +kernel
theorem dX5_within_1 : decode prog_7_method_31_code 1 = .ok (.iload_n 1, 1) := by decide +kernel
theorem dX5_within_2 : decode prog_7_method_31_code 2 = .ok (.aload_n 0, 1) := by decide +kernel
theorem dX5_within_3 : decode prog_7_method_31_code 3 = .ok (.getfield 66, 3) := by decide +kernel
theorem dX5_within_6 : decode prog_7_method_31_code 6 = .ok (.aload_n 0, 1) := by decide +kernel
theorem dX5_within_7 : decode prog_7_method_31_code 7 = .ok (.getfield 69, 3) := by decide +kernel
theorem dX5_within_10 : decode prog_7_method_31_code 10 = .ok (.invokevirtual 171, 3) := by decide +kernel
theorem dX5_within_13 : decode prog_7_method_31_code 13 = .ok (.aload_n 0, 1) := by decide +kernel
theorem dX5_within_14 : decode prog_7_method_31_code 14 = .ok (.iload_n 2, 1) := by decide +kernel
theorem dX5_within_15 : decode prog_7_method_31_code 15 = .ok (.aload_n 0, 1) := by decide +kernel
theorem dX5_within_16 : decode prog_7_method_31_code 16 = .ok (.getfield 72, 3) := by decide +kernel
theorem dX5_within_19 : decode prog_7_method_31_code 19 = .ok (.aload_n 0, 1) := by decide +kernel
theorem dX5_within_20 : decode prog_7_method_31_code 20 = .ok (.getfield 75, 3) := by decide +kernel
theorem dX5_within_23 : decode prog_7_method_31_code 23 = .ok (.invokevirtual 171, 3) := by decide +kernel
theorem dX5_within_26 : decode prog_7_method_31_code 26 = .ok (.iconst 0, 1) := by decide +kernel
theorem dX5_within_27 : decode prog_7_method_31_code 27 = .ok (.istore_n 3, 1) := by decide +kernel
theorem dX5_within_28 : decode prog_7_method_31_code 28 = .ok (.iconst 0, 1) := by decide +kernel
theorem dX5_within_29 : decode prog_7_method_31_code 29 = .ok (.istore 4, 2) := by decide +kernel
theorem dX5_within_31 : decode prog_7_method_31_code 31 = .ok (.iload 4, 2) := by decide +kernel
theorem dX5_within_33 : decode prog_7_method_31_code 33 = .ok (.aload_n 0, 1) := by decide +kernel
theorem dX5_within_34 : decode prog_7_method_31_code 34 = .ok (.getfield 48, 3) := by decide +kernel
theorem dX5_within_37 : decode prog_7_method_31_code 37 = .ok (.iload_n 1, 1) := by decide +kernel
theorem dX5_within_38 : decode prog_7_method_31_code 38 = .ok (.iaload, 1) := by decide +kernel
theorem dX5_within_39 : decode prog_7_method_31_code 39 = .ok (.if_icmp .ge 135, 3) := by decide +kernel
theorem dX5_within_42 : decode prog_7_method_31_code 42 = .ok (.iload 4, 2) := by decide +kernel
theorem dX5_within_44 : decode prog_7_method_31_code 44 = .ok (.bipush 12, 2) := by decide +kernel
theorem dX5_within_46 : decode prog_7_method_31_code 46 = .ok (.if_icmp .ge 128, 3) := by decide +kernel
theorem dX5_within_49 : decode prog_7_method_31_code 49 = .ok (.iconst 0, 1) := by decide +kernel
theorem dX5_within_50 : decode prog_7_method_31_code 50 = .ok (.istore 5, 2) := by decide +kernel
theorem dX5_within_52 : decode prog_7_method_31_code 52 = .ok (.iload 5, 2) := by decide +kernel
theorem dX5_within_54 : decode prog_7_method_31_code 54 = .ok (.aload_n 0, 1) := by decide +kernel
theorem dX5_within_55 : decode prog_7_method_31_code 55 = .ok (.getfield 48, 3) := by decide +kernel
theorem dX5_within_58 : decode prog_7_method_31_code 58 = .ok (.iload_n 2, 1) := by decide +kernel
theorem dX5_within_59 : decode prog_7_method_31_code 59 = .ok (.iaload, 1) := by decide +kernel
theorem dX5_within_60 : decode prog_7_method_31_code 60 = .ok (.if_icmp .ge 108, 3) := by decide +kernel
theorem dX5_within_63 : decode prog_7_method_31_code 63 = .ok (.iload 5, 2) := by decide +kernel
theorem dX5_within_65 : decode prog_7_method_31_code 65 = .ok (.bipush 12, 2) := by decide +kernel
theorem dX5_within_67 : decode prog_7_method_31_code 67 = .ok (.if_icmp .ge 101, 3) := by decide +kernel
theorem dX5_within_70 : decode prog_7_method_31_code 70 = .ok (.aload_n 0, 1) := by decide +kernel
theorem dX5_within_71 : decode prog_7_method_31_code 71 = .ok (.getfield 69, 3) := by decide +kernel
theorem dX5_within_74 : decode prog_7_method_31_code 74 = .ok (.iload 4, 2) := by decide +kernel
theorem dX5_within_76 : decode prog_7_method_31_code 76 = .ok (.iaload, 1) := by decide +kernel
theorem dX5_within_77 : decode prog_7_method_31_code 77 = .ok (.aload_n 0, 1) := by decide +kernel
theorem dX5_within_78 : decode prog_7_method_31_code 78 = .ok (.getfield 69, 3) := by decide +kernel
theorem dX5_within_81 : decode prog_7_method_31_code 81 = .ok (.iload 4, 2) := by decide +kernel
theorem dX5_within_83 : decode prog_7_method_31_code 83 = .ok (.iconst 1, 1) := by decide +kernel
theorem dX5_within_84 : decode prog_7_method_31_code 84 = .ok (.iadd, 1) := by decide +kernel
theorem dX5_within_85 : decode prog_7_method_31_code 85 = .ok (.iaload, 1) := by decide +kernel
theorem dX5_within_86 : decode prog_7_method_31_code 86 = .ok (.aload_n 0, 1) := by decide +kernel
theorem dX5_within_87 : decode prog_7_method_31_code 87 = .ok (.getfield 75, 3) := by decide +kernel
theorem dX5_within_90 : decode prog_7_method_31_code 90 = .ok (.iload 5, 2) := by decide +kernel
theorem dX5_within_92 : decode prog_7_method_31_code 92 = .ok (.iaload, 1) := by decide +kernel
theorem dX5_within_93 : decode prog_7_method_31_code 93 = .ok (.aload_n 0, 1) := by decide +kernel
theorem dX5_within_94 : decode prog_7_method_31_code 94 = .ok (.getfield 75, 3) := by decide +kernel
theorem dX5_within_97 : decode prog_7_method_31_code 97 = .ok (.iload 5, 2) := by decide +kernel
theorem dX5_within_99 : decode prog_7_method_31_code 99 = .ok (.iconst 1, 1) := by decide +kernel
theorem dX5_within_100 : decode prog_7_method_31_code 100 = .ok (.iadd, 1) := by decide +kernel
theorem dX5_within_101 : decode prog_7_method_31_code 101 = .ok (.iaload, 1) := by decide +kernel
theorem dX5_within_102 : decode prog_7_method_31_code 102 = .ok (.invokestatic 178, 3) := by decide +kernel
theorem dX5_within_105 : decode prog_7_method_31_code 105 = .ok (.istore 6, 2) := by decide +kernel
theorem dX5_within_107 : decode prog_7_method_31_code 107 = .ok (.iload 6, 2) := by decide +kernel
theorem dX5_within_109 : decode prog_7_method_31_code 109 = .ok (.ifCond .le 53, 3) := by decide +kernel
theorem dX5_within_112 : decode prog_7_method_31_code 112 = .ok (.aload_n 0, 1) := by decide +kernel
theorem dX5_within_113 : decode prog_7_method_31_code 113 = .ok (.getfield 66, 3) := by decide +kernel
theorem dX5_within_116 : decode prog_7_method_31_code 116 = .ok (.iload 4, 2) := by decide +kernel
theorem dX5_within_118 : decode prog_7_method_31_code 118 = .ok (.iaload, 1) := by decide +kernel
theorem dX5_within_119 : decode prog_7_method_31_code 119 = .ok (.aload_n 0, 1) := by decide +kernel
theorem dX5_within_120 : decode prog_7_method_31_code 120 = .ok (.getfield 72, 3) := by decide +kernel
theorem dX5_within_123 : decode prog_7_method_31_code 123 = .ok (.iload 5, 2) := by decide +kernel
theorem dX5_within_125 : decode prog_7_method_31_code 125 = .ok (.iaload, 1) := by decide +kernel
theorem dX5_within_126 : decode prog_7_method_31_code 126 = .ok (.invokestatic 98, 3) := by decide +kernel
theorem dX5_within_129 : decode prog_7_method_31_code 129 = .ok (.iload 6, 2) := by decide +kernel
theorem dX5_within_131 : decode prog_7_method_31_code 131 = .ok (.imul, 1) := by decide +kernel
theorem dX5_within_132 : decode prog_7_method_31_code 132 = .ok (.istore 7, 2) := by decide +kernel
theorem dX5_within_134 : decode prog_7_method_31_code 134 = .ok (.iload_n 3, 1) := by decide +kernel
theorem dX5_within_135 : decode prog_7_method_31_code 135 = .ok (.aload_n 0, 1) := by decide +kernel
theorem dX5_within_136 : decode prog_7_method_31_code 136 = .ok (.iload_n 1, 1) := by decide +kernel
theorem dX5_within_137 : decode prog_7_method_31_code 137 = .ok (.iload 4, 2) := by decide +kernel
theorem dX5_within_139 : decode prog_7_method_31_code 139 = .ok (.invokevirtual 147, 3) := by decide +kernel
theorem dX5_within_142 : decode prog_7_method_31_code 142 = .ok (.aload_n 0, 1) := by decide +kernel
theorem dX5_within_143 : decode prog_7_method_31_code 143 = .ok (.iload_n 2, 1) := by decide +kernel
theorem dX5_within_144 : decode prog_7_method_31_code 144 = .ok (.iload 5, 2) := by decide +kernel
theorem dX5_within_146 : decode prog_7_method_31_code 146 = .ok (.invokevirtual 147, 3) := by decide +kernel
theorem dX5_within_149 : decode prog_7_method_31_code 149 = .ok (.if_icmp .ne 8, 3) := by decide +kernel
theorem dX5_within_152 : decode prog_7_method_31_code 152 = .ok (.iload 7, 2) := by decide +kernel
theorem dX5_within_154 : decode prog_7_method_31_code 154 = .ok (.goto 6, 3) := by decide +kernel
theorem dX5_within_157 : decode prog_7_method_31_code 157 = .ok (.iload 7, 2) := by decide +kernel
theorem dX5_within_159 : decode prog_7_method_31_code 159 = .ok (.ineg, 1) := by decide +kernel
theorem dX5_within_160 : decode prog_7_method_31_code 160 = .ok (.iadd, 1) := by decide +kernel
theorem dX5_within_161 : decode prog_7_method_31_code 161 = .ok (.istore_n 3, 1) := by decide +kernel
theorem dX5_within_162 : decode prog_7_method_31_code 162 = .ok (.iinc 5 1, 3) := by decide +kernel
theorem dX5_within_165 : decode prog_7_method_31_code 165 = .ok (.goto (-113), 3) := by decide +kernel
theorem dX5_within_168 : decode prog_7_method_31_code 168 = .ok (.iinc 4 1, 3) := by decide +kernel
theorem dX5_within_171 : decode prog_7_method_31_code 171 = .ok (.goto (-140), 3) := by decide +kernel
theorem dX5_within_174 : decode prog_7_method_31_code 174 = .ok (.iload_n 3, 1) := by decide +kernel
theorem dX5_within_175 : decode prog_7_method_31_code 175 = .ok (.invokestatic 167, 3) := by decide +kernel
theorem dX5_within_178 : decode prog_7_method_31_code 178 = .ok (.ireturn, 1) := by decide +kernel
abbrev A_X5_within_31 (l : Launch) (E : bE) (Q : (Int × bM) → Prop) (v1 : Int) (v2 : Int) (M : bM) : (Int × Int) → Prop := (fun t : Int × Int => V l E xX5_within (0, 0) 31 [(0, bR 3), (1, bI v1), (2, bI v2), (3, bI (t.1)), (4, bI (t.2))] [] M (b_pI Q))
abbrev X_X5_within_31 (l : Launch) (E : bE) (Q : (Int × bM) → Prop) (v1 : Int) (v2 : Int) (M : bM) : (Int) → Prop := (fun t : Int => V l E xX5_within (0, 0) 174 [(3, bI t)] [] M (b_pI Q))
abbrev A_X5_within_52 (l : Launch) (E : bE) (Q : (Int × bM) → Prop) (v1 : Int) (v2 : Int) (v4 : Int) (M : bM) : (Int × Int) → Prop := (fun t : Int × Int => V l E xX5_within (0, 0) 52 [(0, bR 3), (1, bI v1), (2, bI v2), (3, bI (t.1)), (4, bI v4), (5, bI (t.2))] [] M (b_pI Q))
abbrev X_X5_within_52 (l : Launch) (E : bE) (Q : (Int × bM) → Prop) (v1 : Int) (v2 : Int) (v4 : Int) (M : bM) : (Int) → Prop := (fun t : Int => V l E xX5_within (0, 0) 168 [(0, bR 3), (1, bI v1), (2, bI v2), (3, bI t), (4, bI v4)] [] M (b_pI Q))
noncomputable def F_X5_within_b160 (v1 : Int) (v2 : Int) (v4 : Int) (v5 : Int) (u0 : Int) (u1 : Int) (M : bM) : Option ((Int × Int) ⊕ (Int)) :=
  b_g ((b_i32 (u0 + u1)) ∧ (b_i32 (v5 + 1))) (some (.inl ((u0 + u1), (v5 + 1))))
theorem t_X5_within_b160 {l : Launch} {E : bE} {Q : (Int × bM) → Prop} {v1 : Int} {v2 : Int} {v4 : Int} {v5 : Int} {u0 : Int} {u1 : Int} {M : bM} (h : b_wp (F_X5_within_b160 v1 v2 v4 v5 u0 u1 M) (Sum.elim (A_X5_within_52 l E Q v1 v2 v4 M) (X_X5_within_52 l E Q v1 v2 v4 M))) : V l E xX5_within (0, 0) 160 [(0, bR 3), (1, bI v1), (2, bI v2), (4, bI v4), (5, bI v5)] [bI u1, bI u0] M (b_pI Q) := by
  unfold F_X5_within_b160 at h
  obtain ⟨⟨g26, g27⟩, h⟩ := b_wp_g h
  refine v_iaddN g26 dX5_within_160 ?_
  refine v_istore_n (g := 3) (i := 3) (ls' := [(3, bI _), (0, bR _), (1, bI _), (2, bI _), (4, bI _), (5, bI _)]) rfl (by decide) dX5_within_161 rfl ?_
  refine v_iincN (ls' := [(5, bI _), (3, bI _), (0, bR _), (1, bI _), (2, bI _), (4, bI _)]) 5 rfl (by decide) g27 dX5_within_162 rfl ?_
  refine v_goto (tgt := 52) dX5_within_165 (by decide) ?_
  refine v_sub (ls2 := [(0, bR _), (1, bI _), (2, bI _), (3, bI _), (4, bI _), (5, bI _)]) [2, 3, 4, 1, 5, 0] rfl ?_
  exact h
noncomputable def F_X5_within_s52 (v1 : Int) (v2 : Int) (v3 : Int) (v4 : Int) (v5 : Int) (M : bM) : Option ((Int × Int) ⊕ (Int)) :=
  b_g (0 ≤ v2 ∧ v2 < 60) (if (M 94 v2) ≤ v5 then (some (.inr (v3))) else (if 12 ≤ v5 then (some (.inr (v3))) else (b_g ((0 ≤ v4 ∧ v4 < 13) ∧ (b_i32 (v4 + 1)) ∧ (0 ≤ (v4 + 1) ∧ (v4 + 1) < 13) ∧ (0 ≤ v5 ∧ v5 < 13) ∧ (b_i32 (v5 + 1)) ∧ (0 ≤ (v5 + 1) ∧ (v5 + 1) < 13)) (b_bind (F_X5_common (M 101 v4) (M 101 (v4 + 1)) (M 103 v5) (M 103 (v5 + 1)) M) (fun x15 => if x15 ≤ 0 then (b_g (b_i32 (v5 + 1)) (some (.inl (v3, (v5 + 1))))) else (b_g ((0 ≤ v4 ∧ v4 < 13) ∧ (0 ≤ v5 ∧ v5 < 13) ∧ (b_i32 ((max (M 100 v4) (M 102 v5)) * x15))) (b_let (((max (M 100 v4) (M 102 v5)) * x15)) (fun y21 => b_bind (F_X5_wayOf v1 v4 M) (fun x22 => b_bind (F_X5_wayOf v2 v5 M) (fun x23 => if x22 = x23 then (F_X5_within_b160 v1 v2 v4 v5 v3 y21 M) else (b_g (b_i32 (-y21)) (F_X5_within_b160 v1 v2 v4 v5 v3 (-y21) M))))))))))))
theorem t_X5_within_s52 {l : Launch} {E : bE} {Q : (Int × bM) → Prop} {v1 : Int} {v2 : Int} {v3 : Int} {v4 : Int} {v5 : Int} {M : bM} (h : b_wp (F_X5_within_s52 v1 v2 v3 v4 v5 M) (Sum.elim (A_X5_within_52 l E Q v1 v2 v4 M) (X_X5_within_52 l E Q v1 v2 v4 M))) : V l E xX5_within (0, 0) 52 [(0, bR 3), (1, bI v1), (2, bI v2), (3, bI v3), (4, bI v4), (5, bI v5)] [] M (b_pI Q) := by
  unfold F_X5_within_s52 at h
  obtain ⟨g6, h⟩ := b_wp_g h
  refine v_iload (i := 5) 5 rfl dX5_within_52 ?_
  refine v_aload_n (f := 0) 0 rfl dX5_within_54 ?_
  refine v_getR (kf := 10) (kz := 10) rfl kd_3 rfl ⟨by decide, by decide⟩ rfl wf_5_48 dX5_within_55 ?_
  refine v_iload_n (f := 2) 2 rfl dX5_within_58 ?_
  refine v_iaload kd_94 g6 (by decide) dX5_within_59 ?_
  refine v_icmp_ge (tgt := 168) dX5_within_60 (by decide) (fun c7 => ?_) (fun c7 => ?_)
  · replace h := b_wp_t c7 h
    refine v_sub (ls2 := [(0, bR _), (1, bI _), (2, bI _), (3, bI _), (4, bI _)]) [0, 1, 2, 3, 4] rfl ?_
    exact h
  · replace h := b_wp_f c7 h
    refine v_iload (i := 5) 5 rfl dX5_within_63 ?_
    refine v_bipush ⟨by decide, by decide⟩ (by decide) dX5_within_65 ?_
    refine v_icmp_ge (tgt := 168) dX5_within_67 (by decide) (fun c8 => ?_) (fun c8 => ?_)
    · replace h := b_wp_t c8 h
      refine v_sub (ls2 := [(0, bR _), (1, bI _), (2, bI _), (3, bI _), (4, bI _)]) [0, 1, 2, 3, 4] rfl ?_
      exact h
    · replace h := b_wp_f c8 h
      obtain ⟨⟨g9, g10, g11, g12, g13, g14⟩, h⟩ := b_wp_g h
      refine v_aload_n (f := 0) 0 rfl dX5_within_70 ?_
      refine v_getR (kf := 17) (kz := 17) rfl kd_3 rfl ⟨by decide, by decide⟩ rfl wf_5_69 dX5_within_71 ?_
      refine v_iload (i := 4) 4 rfl dX5_within_74 ?_
      refine v_iaload kd_101 g9 (by decide) dX5_within_76 ?_
      refine v_aload_n (f := 0) 0 rfl dX5_within_77 ?_
      refine v_getR (kf := 17) (kz := 17) rfl kd_3 rfl ⟨by decide, by decide⟩ rfl wf_5_69 dX5_within_78 ?_
      refine v_iload (i := 4) 4 rfl dX5_within_81 ?_
      refine v_iconst ⟨by decide, by decide⟩ dX5_within_83 ?_
      refine v_iaddN g10 dX5_within_84 ?_
      refine v_iaload kd_101 g11 (by decide) dX5_within_85 ?_
      refine v_aload_n (f := 0) 0 rfl dX5_within_86 ?_
      refine v_getR (kf := 19) (kz := 19) rfl kd_3 rfl ⟨by decide, by decide⟩ rfl wf_5_75 dX5_within_87 ?_
      refine v_iload (i := 5) 5 rfl dX5_within_90 ?_
      refine v_iaload kd_103 g12 (by decide) dX5_within_92 ?_
      refine v_aload_n (f := 0) 0 rfl dX5_within_93 ?_
      refine v_getR (kf := 19) (kz := 19) rfl kd_3 rfl ⟨by decide, by decide⟩ rfl wf_5_75 dX5_within_94 ?_
      refine v_iload (i := 5) 5 rfl dX5_within_97 ?_
      refine v_iconst ⟨by decide, by decide⟩ dX5_within_99 ?_
      refine v_iaddN g13 dX5_within_100 ?_
      refine v_iaload kd_103 g14 (by decide) dX5_within_101 ?_
      refine v_cSIp (nA := 4) (As := [bI _, bI _, bI _, bI _]) (ix := 178) (cf_X5_common (b_wp_b h)) rfl wc_X5_common wm_5_178 wi_X5_common wn_5 ⟨by decide, by decide, by decide⟩ rfl ⟨by decide, by decide⟩ ⟨by decide, by decide⟩ (Nat.le_of_ble_eq_true rfl) dX5_within_102 (fun x15 h => ?_)
      refine v_istore (i := 6) (ls' := [(6, bI _), (0, bR _), (1, bI _), (2, bI _), (3, bI _), (4, bI _), (5, bI _)]) (by decide) dX5_within_105 rfl ?_
      refine v_iload (i := 6) 0 rfl dX5_within_107 ?_
      refine v_if_le (tgt := 162) dX5_within_109 (by decide) (fun c16 => ?_) (fun c16 => ?_)
      · replace h := b_wp_t c16 h
        obtain ⟨g17, h⟩ := b_wp_g h
        refine v_iincN (ls' := [(5, bI _), (6, bI _), (0, bR _), (1, bI _), (2, bI _), (3, bI _), (4, bI _)]) 6 rfl (by decide) g17 dX5_within_162 rfl ?_
        refine v_goto (tgt := 52) dX5_within_165 (by decide) ?_
        refine v_sub (ls2 := [(0, bR _), (1, bI _), (2, bI _), (3, bI _), (4, bI _), (5, bI _)]) [2, 3, 4, 5, 6, 0] rfl ?_
        exact h
      · replace h := b_wp_f c16 h
        obtain ⟨⟨g18, g19, g20⟩, h⟩ := b_wp_g h
        refine v_aload_n (f := 0) 1 rfl dX5_within_112 ?_
        refine v_getR (kf := 16) (kz := 16) rfl kd_3 rfl ⟨by decide, by decide⟩ rfl wf_5_66 dX5_within_113 ?_
        refine v_iload (i := 4) 5 rfl dX5_within_116 ?_
        refine v_iaload kd_100 g18 (by decide) dX5_within_118 ?_
        refine v_aload_n (f := 0) 1 rfl dX5_within_119 ?_
        refine v_getR (kf := 18) (kz := 18) rfl kd_3 rfl ⟨by decide, by decide⟩ rfl wf_5_72 dX5_within_120 ?_
        refine v_iload (i := 5) 6 rfl dX5_within_123 ?_
        refine v_iaload kd_102 g19 (by decide) dX5_within_125 ?_
        refine v_mmax wm_5_98 wma_max wmi wmc_max ⟨by decide, by decide⟩ ⟨by decide, by decide⟩ (Nat.le_of_ble_eq_true rfl) dX5_within_126 ?_
        refine v_iload (i := 6) 0 rfl dX5_within_129 ?_
        refine v_imulN g20 dX5_within_131 ?_
        replace h := b_wp_l h
        refine v_istore (i := 7) (ls' := [(7, bI _), (6, bI _), (0, bR _), (1, bI _), (2, bI _), (3, bI _), (4, bI _), (5, bI _)]) (by decide) dX5_within_132 rfl ?_
        refine v_iload_n (f := 3) 5 rfl dX5_within_134 ?_
        refine v_aload_n (f := 0) 2 rfl dX5_within_135 ?_
        refine v_iload_n (f := 1) 3 rfl dX5_within_136 ?_
        refine v_iload (i := 4) 6 rfl dX5_within_137 ?_
        refine v_cVIp (nA := 2) (As := [bI _, bI _]) (ix := 147) (cf_X5_wayOf (b_wp_b h)) rfl kd_3 rfl rfl wc_X5_wayOf wm_5_147 wi_X5_wayOf ws_X5_wayOf wn_5 ⟨by decide, by decide, by decide⟩ rfl ⟨by decide, by decide⟩ ⟨by decide, by decide⟩ (Nat.le_of_ble_eq_true rfl) dX5_within_139 (fun x22 h => ?_)
        refine v_aload_n (f := 0) 2 rfl dX5_within_142 ?_
        refine v_iload_n (f := 2) 4 rfl dX5_within_143 ?_
        refine v_iload (i := 5) 7 rfl dX5_within_144 ?_
        refine v_cVIp (nA := 2) (As := [bI _, bI _]) (ix := 147) (cf_X5_wayOf (b_wp_b h)) rfl kd_3 rfl rfl wc_X5_wayOf wm_5_147 wi_X5_wayOf ws_X5_wayOf wn_5 ⟨by decide, by decide, by decide⟩ rfl ⟨by decide, by decide⟩ ⟨by decide, by decide⟩ (Nat.le_of_ble_eq_true rfl) dX5_within_146 (fun x23 h => ?_)
        refine v_icmp_ne (tgt := 157) dX5_within_149 (by decide) (fun c24 => ?_) (fun c24 => ?_)
        · replace h := b_wp_f c24 h
          obtain ⟨g25, h⟩ := b_wp_g h
          refine v_iload (i := 7) 0 rfl dX5_within_157 ?_
          refine v_inegN g25 dX5_within_159 ?_
          refine v_sub (ls2 := [(0, bR _), (1, bI _), (2, bI _), (4, bI _), (5, bI _)]) [2, 3, 4, 6, 7] rfl ?_
          exact t_X5_within_b160 h
        · replace h := b_wp_t c24 h
          refine v_iload (i := 7) 0 rfl dX5_within_152 ?_
          refine v_goto (tgt := 160) dX5_within_154 (by decide) ?_
          refine v_sub (ls2 := [(0, bR _), (1, bI _), (2, bI _), (4, bI _), (5, bI _)]) [2, 3, 4, 6, 7] rfl ?_
          exact t_X5_within_b160 h
theorem l_X5_within_52 {l : Launch} {E : bE} {Q : (Int × bM) → Prop} {v1 : Int} {v2 : Int} {v4 : Int} {M : bM} {s : Int × Int} (h : b_wp (b_loop (fun t => F_X5_within_s52 v1 v2 t.1 v4 t.2 M) s) (X_X5_within_52 l E Q v1 v2 v4 M)) : A_X5_within_52 l E Q v1 v2 v4 M s := b_loop_wp (fun t h => t_X5_within_s52 h) s h
noncomputable def F_X5_within_b168 (v1 : Int) (v2 : Int) (v3 : Int) (v4 : Int) (M : bM) : Option ((Int × Int) ⊕ (Int)) :=
  b_g (b_i32 (v4 + 1)) (some (.inl (v3, (v4 + 1))))
theorem t_X5_within_b168 {l : Launch} {E : bE} {Q : (Int × bM) → Prop} {v1 : Int} {v2 : Int} {v3 : Int} {v4 : Int} {M : bM} (h : b_wp (F_X5_within_b168 v1 v2 v3 v4 M) (Sum.elim (A_X5_within_31 l E Q v1 v2 M) (X_X5_within_31 l E Q v1 v2 M))) : V l E xX5_within (0, 0) 168 [(0, bR 3), (1, bI v1), (2, bI v2), (3, bI v3), (4, bI v4)] [] M (b_pI Q) := by
  unfold F_X5_within_b168 at h
  obtain ⟨g28, h⟩ := b_wp_g h
  refine v_iincN (ls' := [(4, bI _), (0, bR _), (1, bI _), (2, bI _), (3, bI _)]) 4 rfl (by decide) g28 dX5_within_168 rfl ?_
  refine v_goto (tgt := 31) dX5_within_171 (by decide) ?_
  refine v_sub (ls2 := [(0, bR _), (1, bI _), (2, bI _), (3, bI _), (4, bI _)]) [1, 2, 3, 4, 0] rfl ?_
  exact h
noncomputable def F_X5_within_s31 (v1 : Int) (v2 : Int) (v3 : Int) (v4 : Int) (M : bM) : Option ((Int × Int) ⊕ (Int)) :=
  b_g (0 ≤ v1 ∧ v1 < 60) (if (M 94 v1) ≤ v4 then (some (.inr (v3))) else (if 12 ≤ v4 then (some (.inr (v3))) else (b_bind (b_loop (fun t => F_X5_within_s52 v1 v2 t.1 v4 t.2 M) (v3, 0)) (fun t => F_X5_within_b168 v1 v2 t v4 M))))
theorem t_X5_within_s31 {l : Launch} {E : bE} {Q : (Int × bM) → Prop} {v1 : Int} {v2 : Int} {v3 : Int} {v4 : Int} {M : bM} (h : b_wp (F_X5_within_s31 v1 v2 v3 v4 M) (Sum.elim (A_X5_within_31 l E Q v1 v2 M) (X_X5_within_31 l E Q v1 v2 M))) : V l E xX5_within (0, 0) 31 [(0, bR 3), (1, bI v1), (2, bI v2), (3, bI v3), (4, bI v4)] [] M (b_pI Q) := by
  unfold F_X5_within_s31 at h
  obtain ⟨g3, h⟩ := b_wp_g h
  refine v_iload (i := 4) 4 rfl dX5_within_31 ?_
  refine v_aload_n (f := 0) 0 rfl dX5_within_33 ?_
  refine v_getR (kf := 10) (kz := 10) rfl kd_3 rfl ⟨by decide, by decide⟩ rfl wf_5_48 dX5_within_34 ?_
  refine v_iload_n (f := 1) 1 rfl dX5_within_37 ?_
  refine v_iaload kd_94 g3 (by decide) dX5_within_38 ?_
  refine v_icmp_ge (tgt := 174) dX5_within_39 (by decide) (fun c4 => ?_) (fun c4 => ?_)
  · replace h := b_wp_t c4 h
    refine v_sub (ls2 := [(3, bI _)]) [3] rfl ?_
    exact h
  · replace h := b_wp_f c4 h
    refine v_iload (i := 4) 4 rfl dX5_within_42 ?_
    refine v_bipush ⟨by decide, by decide⟩ (by decide) dX5_within_44 ?_
    refine v_icmp_ge (tgt := 174) dX5_within_46 (by decide) (fun c5 => ?_) (fun c5 => ?_)
    · replace h := b_wp_t c5 h
      refine v_sub (ls2 := [(3, bI _)]) [3] rfl ?_
      exact h
    · replace h := b_wp_f c5 h
      refine v_iconst ⟨by decide, by decide⟩ dX5_within_49 ?_
      refine v_istore (i := 5) (ls' := [(5, bI _), (0, bR _), (1, bI _), (2, bI _), (3, bI _), (4, bI _)]) (by decide) dX5_within_50 rfl ?_
      refine v_sub (ls2 := [(0, bR _), (1, bI _), (2, bI _), (3, bI _), (4, bI _), (5, bI _)]) [1, 2, 3, 4, 5, 0] rfl ?_
      refine l_X5_within_52 (b_wp_m (fun t h => ?_) (b_wp_b h))
      show V l E xX5_within (0, 0) 168 [(0, bR 3), (1, bI _), (2, bI _), (3, bI _), (4, bI _)] [] _ (b_pI Q)
      exact t_X5_within_b168 h
theorem l_X5_within_31 {l : Launch} {E : bE} {Q : (Int × bM) → Prop} {v1 : Int} {v2 : Int} {M : bM} {s : Int × Int} (h : b_wp (b_loop (fun t => F_X5_within_s31 v1 v2 t.1 t.2 M) s) (X_X5_within_31 l E Q v1 v2 M)) : A_X5_within_31 l E Q v1 v2 M s := b_loop_wp (fun t h => t_X5_within_s31 h) s h
noncomputable def F_X5_within_b174 (v3 : Int) (M : bM) : Option (Int × bM) :=
  b_g (b_i32 (-v3)) (some ((max v3 (-v3)), M))
theorem t_X5_within_b174 {l : Launch} {E : bE} {Q : (Int × bM) → Prop} {v3 : Int} {M : bM} (h : b_wp (F_X5_within_b174 v3 M) (Q)) : V l E xX5_within (0, 0) 174 [(3, bI v3)] [] M (b_pI Q) := by
  unfold F_X5_within_b174 at h
  obtain ⟨g29, h⟩ := b_wp_g h
  refine v_iload_n (f := 3) 0 rfl dX5_within_174 ?_
  refine v_mabs g29 wm_5_167 wma_abs wmi wmc_abs ⟨by decide, by decide⟩ ⟨by decide, by decide⟩ (Nat.le_of_ble_eq_true rfl) dX5_within_175 ?_
  refine v_ireturn rfl dX5_within_178 ⟨by decide, by decide⟩ ?_
  exact ⟨_, rfl, h⟩
noncomputable def F_X5_within (v1 : Int) (v2 : Int) (M : bM) : Option (Int × bM) :=
  b_bind (F_X5_trace_100_101 v1 M) (fun M1 => b_bind (F_X5_trace_102_103 v2 M1) (fun M2 => b_bind (b_loop (fun t => F_X5_within_s31 v1 v2 t.1 t.2 M2) (0, 0)) (fun t => F_X5_within_b174 t M2)))
theorem t_X5_within {l : Launch} {E : bE} {Q : (Int × bM) → Prop} {v1 : Int} {v2 : Int} {M : bM} (h : b_wp (F_X5_within v1 v2 M) (Q)) : V l E xX5_within (0, 0) 0 [(0, bR 3), (1, bI v1), (2, bI v2)] [] M (b_pI Q) := by
  unfold F_X5_within at h
  refine v_aload_n (f := 0) 0 rfl dX5_within_0 ?_
  refine v_iload_n (f := 1) 1 rfl dX5_within_1 ?_
  refine v_aload_n (f := 0) 0 rfl dX5_within_2 ?_
  refine v_getR (kf := 16) (kz := 16) rfl kd_3 rfl ⟨by decide, by decide⟩ rfl wf_5_66 dX5_within_3 ?_
  refine v_aload_n (f := 0) 0 rfl dX5_within_6 ?_
  refine v_getR (kf := 17) (kz := 17) rfl kd_3 rfl ⟨by decide, by decide⟩ rfl wf_5_69 dX5_within_7 ?_
  refine v_cVV (nA := 3) (As := [bI _, bR _, bR _]) (ix := 171) (cf_X5_trace_100_101 (b_wp_b h)) rfl kd_3 rfl rfl wc_X5_trace wm_5_171 wi_X5_trace ws_X5_trace wn_5 ⟨by decide, by decide, by decide⟩ rfl ⟨by decide, by decide⟩ ⟨by decide, by decide⟩ (Nat.le_of_ble_eq_true rfl) dX5_within_10 (fun M1 h => ?_)
  refine v_aload_n (f := 0) 0 rfl dX5_within_13 ?_
  refine v_iload_n (f := 2) 2 rfl dX5_within_14 ?_
  refine v_aload_n (f := 0) 0 rfl dX5_within_15 ?_
  refine v_getR (kf := 18) (kz := 18) rfl kd_3 rfl ⟨by decide, by decide⟩ rfl wf_5_72 dX5_within_16 ?_
  refine v_aload_n (f := 0) 0 rfl dX5_within_19 ?_
  refine v_getR (kf := 19) (kz := 19) rfl kd_3 rfl ⟨by decide, by decide⟩ rfl wf_5_75 dX5_within_20 ?_
  refine v_cVV (nA := 3) (As := [bI _, bR _, bR _]) (ix := 171) (cf_X5_trace_102_103 (b_wp_b h)) rfl kd_3 rfl rfl wc_X5_trace wm_5_171 wi_X5_trace ws_X5_trace wn_5 ⟨by decide, by decide, by decide⟩ rfl ⟨by decide, by decide⟩ ⟨by decide, by decide⟩ (Nat.le_of_ble_eq_true rfl) dX5_within_23 (fun M2 h => ?_)
  refine v_iconst ⟨by decide, by decide⟩ dX5_within_26 ?_
  refine v_istore_n (g := 3) (i := 3) (ls' := [(3, bI _), (0, bR _), (1, bI _), (2, bI _)]) rfl (by decide) dX5_within_27 rfl ?_
  refine v_iconst ⟨by decide, by decide⟩ dX5_within_28 ?_
  refine v_istore (i := 4) (ls' := [(4, bI _), (3, bI _), (0, bR _), (1, bI _), (2, bI _)]) (by decide) dX5_within_29 rfl ?_
  refine v_sub (ls2 := [(0, bR _), (1, bI _), (2, bI _), (3, bI _), (4, bI _)]) [2, 3, 4, 1, 0] rfl ?_
  refine l_X5_within_31 (b_wp_m (fun t h => ?_) (b_wp_b h))
  show V l E xX5_within (0, 0) 174 [(3, bI _)] [] _ (b_pI Q)
  exact t_X5_within_b174 h
theorem cf_X5_within {l : Launch} {E : bE} {M : bM} {v1 : Int} {v2 : Int} {Q : (Int × bM) → Prop} (h : b_wp (F_X5_within v1 v2 M) Q) : b_C l E xX5_within yX5_within [bR 3, bI v1, bI v2] M (b_pI Q) := b_met (by decide) ⟨rfl, rfl⟩ (Nat.le_of_ble_eq_true rfl) (fun _ _ => t_X5_within h)
abbrev xX11_area : bX := ("BurntHall", prog_1_method_22_code, 3, (Option.some Jvm.ClassFile.FieldType.int), b_rm 5 0 0, 0, "area")
abbrev yX11_area : MethodName := ⟨"BurntHall", "area", "(I)I"⟩
theorem dX11_area_0 : decode prog_1_method_22_code 0 = .ok (.aload_n 0, 1) := by decide +kernel
theorem dX11_area_1 : decode prog_1_method_22_code 1 = .ok (.iload_n 1, 1) := by decide +kernel
theorem dX11_area_2 : decode prog_1_method_22_code 2 = .ok (.invokevirtual 185, 3) := by decide +kernel
theorem dX11_area_5 : decode prog_1_method_22_code 5 = .ok (.istore_n 2, 1) := by decide +kernel
theorem dX11_area_6 : decode prog_1_method_22_code 6 = .ok (.iload_n 2, 1) := by decide +kernel
theorem dX11_area_7 : decode prog_1_method_22_code 7 = .ok (.ifCond .ge 5, 3) := by decide +kernel
theorem dX11_area_10 : decode prog_1_method_22_code 10 = .ok (.iload_n 2, 1) := by decide +kernel
theorem dX11_area_11 : decode prog_1_method_22_code 11 = .ok (.ireturn, 1) := by decide +kernel
theorem dX11_area_12 : decode prog_1_method_22_code 12 = .ok (.aload_n 0, 1) := by decide +kernel
theorem dX11_area_13 : decode prog_1_method_22_code 13 = .ok (.getfield 26, 3) := by decide +kernel
theorem dX11_area_16 : decode prog_1_method_22_code 16 = .ok (.iload_n 1, 1) := by decide +kernel
theorem dX11_area_17 : decode prog_1_method_22_code 17 = .ok (.invokevirtual 199, 3) := by decide +kernel
theorem dX11_area_20 : decode prog_1_method_22_code 20 = .ok (.ifCond .eq 15, 3) := by decide +kernel
theorem dX11_area_23 : decode prog_1_method_22_code 23 = .ok (.aload_n 0, 1) := by decide +kernel
theorem dX11_area_24 : decode prog_1_method_22_code 24 = .ok (.getfield 26, 3) := by decide +kernel
theorem dX11_area_27 : decode prog_1_method_22_code 27 = .ok (.iload_n 1, 1) := by decide +kernel
theorem dX11_area_28 : decode prog_1_method_22_code 28 = .ok (.iload_n 1, 1) := by decide +kernel
theorem dX11_area_29 : decode prog_1_method_22_code 29 = .ok (.invokevirtual 202, 3) := by decide +kernel
theorem dX11_area_32 : decode prog_1_method_22_code 32 = .ok (.goto 4, 3) := by decide +kernel
theorem dX11_area_35 : decode prog_1_method_22_code 35 = .ok (.iconst (-1), 1) := by decide +kernel
theorem dX11_area_36 : decode prog_1_method_22_code 36 = .ok (.ireturn, 1) := by decide +kernel
noncomputable def F_X11_area (v1 : Int) (M : bM) : Option (Int × bM) :=
  b_bind (F_X11_withoutBounds v1 M) (fun x1 => if 0 ≤ x1 then (b_bind (F_X5_enclose v1 M) (fun t => b_two t (fun x3 M4 => if x3 = 0 then (some ((-1), M4)) else (b_bind (F_X5_within v1 v1 M4) (fun t => b_two t (fun x6 M7 => some (x6, M7))))))) else (some (x1, M)))
theorem t_X11_area {l : Launch} {E : bE} {Q : (Int × bM) → Prop} {v1 : Int} {M : bM} (h : b_wp (F_X11_area v1 M) (Q)) : V l E xX11_area (0, 0) 0 [(0, bR 0), (1, bI v1)] [] M (b_pI Q) := by
  unfold F_X11_area at h
  refine v_aload_n (f := 0) 0 rfl dX11_area_0 ?_
  refine v_iload_n (f := 1) 1 rfl dX11_area_1 ?_
  refine v_cVIp (nA := 1) (As := [bI _]) (ix := 185) (cf_X11_withoutBounds (b_wp_b h)) rfl kd_0 rfl rfl wc_X11_withoutBounds wm_11_185 wi_X11_withoutBounds ws_X11_withoutBounds wn_11 ⟨by decide, by decide, by decide⟩ rfl ⟨by decide, by decide⟩ ⟨by decide, by decide⟩ (Nat.le_of_ble_eq_true rfl) dX11_area_2 (fun x1 h => ?_)
  refine v_istore_n (g := 2) (i := 2) (ls' := [(2, bI _), (0, bR _), (1, bI _)]) rfl (by decide) dX11_area_5 rfl ?_
  refine v_iload_n (f := 2) 0 rfl dX11_area_6 ?_
  refine v_if_ge (tgt := 12) dX11_area_7 (by decide) (fun c2 => ?_) (fun c2 => ?_)
  · replace h := b_wp_t c2 h
    refine v_aload_n (f := 0) 1 rfl dX11_area_12 ?_
    refine v_getR (kf := 2) (kz := 2) rfl kd_0 rfl ⟨by decide, by decide⟩ rfl wf_11_26 dX11_area_13 ?_
    refine v_iload_n (f := 1) 2 rfl dX11_area_16 ?_
    refine v_cVI (nA := 1) (As := [bI _]) (ix := 199) (cf_X5_enclose (b_wp_b h)) rfl kd_3 rfl rfl wc_X5_enclose wm_11_199 wi_X5_enclose ws_X5_enclose wn_5 ⟨by decide, by decide, by decide⟩ rfl ⟨by decide, by decide⟩ ⟨by decide, by decide⟩ (Nat.le_of_ble_eq_true rfl) dX11_area_17 (fun x3 M4 h => ?_)
    replace h := b_wp_two h
    refine v_if_eq (tgt := 35) dX11_area_20 (by decide) (fun c5 => ?_) (fun c5 => ?_)
    · replace h := b_wp_t c5 h
      refine v_iconst ⟨by decide, by decide⟩ dX11_area_35 ?_
      refine v_ireturn rfl dX11_area_36 ⟨by decide, by decide⟩ ?_
      exact ⟨_, rfl, h⟩
    · replace h := b_wp_f c5 h
      refine v_aload_n (f := 0) 1 rfl dX11_area_23 ?_
      refine v_getR (kf := 2) (kz := 2) rfl kd_0 rfl ⟨by decide, by decide⟩ rfl wf_11_26 dX11_area_24 ?_
      refine v_iload_n (f := 1) 2 rfl dX11_area_27 ?_
      refine v_iload_n (f := 1) 2 rfl dX11_area_28 ?_
      refine v_cVI (nA := 2) (As := [bI _, bI _]) (ix := 202) (cf_X5_within (b_wp_b h)) rfl kd_3 rfl rfl wc_X5_within wm_11_202 wi_X5_within ws_X5_within wn_5 ⟨by decide, by decide, by decide⟩ rfl ⟨by decide, by decide⟩ ⟨by decide, by decide⟩ (Nat.le_of_ble_eq_true rfl) dX11_area_29 (fun x6 M7 h => ?_)
      replace h := b_wp_two h
      refine v_goto (tgt := 36) dX11_area_32 (by decide) ?_
      refine v_ireturn rfl dX11_area_36 ⟨by decide, by decide⟩ ?_
      exact ⟨_, rfl, h⟩
  · replace h := b_wp_f c2 h
    refine v_iload_n (f := 2) 0 rfl dX11_area_10 ?_
    refine v_ireturn rfl dX11_area_11 ⟨by decide, by decide⟩ ?_
    exact ⟨_, rfl, h⟩
theorem cf_X11_area {l : Launch} {E : bE} {M : bM} {v1 : Int} {Q : (Int × bM) → Prop} (h : b_wp (F_X11_area v1 M) Q) : b_C l E xX11_area yX11_area [bR 0, bI v1] M (b_pI Q) := b_met (by decide) ⟨rfl, rfl⟩ (Nat.le_of_ble_eq_true rfl) (fun _ _ => t_X11_area h)
