abbrev xX11_strip : bX := ("BurntHall", prog_1_method_23_code, 3, (Option.some Jvm.ClassFile.FieldType.int), b_rm 5 0 0, 0, "strip")
abbrev yX11_strip : MethodName := ⟨"BurntHall", "strip", "(II)I"⟩
theorem dX11_strip_0 : decode prog_1_method_23_code 0 = .ok (.aload_n 0, 1) := by decide +kernel
theorem dX11_strip_1 : decode prog_1_method_23_code 1 = .ok (.getfield 26, 3) := by decide +kernel
theorem dX11_strip_4 : decode prog_1_method_23_code 4 = .ok (.iload_n 1, 1) := by decide +kernel
theorem dX11_strip_5 : decode prog_1_method_23_code 5 = .ok (.invokevirtual 146, 3) := by decide +kernel
theorem dX11_strip_8 : decode prog_1_method_23_code 8 = .ok (.ifCond .eq 19, 3) := by decide +kernel
theorem dX11_strip_11 : decode prog_1_method_23_code 11 = .ok (.aload_n 0, 1) := by decide +kernel
theorem dX11_strip_12 : decode prog_1_method_23_code 12 = .ok (.getfield 26, 3) := by decide +kernel
theorem dX11_strip_15 : decode prog_1_method_23_code 15 = .ok (.iload_n 2, 1) := by decide +kernel
theorem dX11_strip_16 : decode prog_1_method_23_code 16 = .ok (.invokevirtual 146, 3) := by decide +kernel
theorem dX11_strip_19 : decode prog_1_method_23_code 19 = .ok (.ifCond .eq 8, 3) := by decide +kernel
theorem dX11_strip_22 : decode prog_1_method_23_code 22 = .ok (.iload_n 1, 1) := by decide +kernel
theorem dX11_strip_23 : decode prog_1_method_23_code 23 = .ok (.iload_n 2, 1) := by decide +kernel
theorem dX11_strip_24 : decode prog_1_method_23_code 24 = .ok (.if_icmp .ne 6, 3) := by decide +kernel
theorem dX11_strip_27 : decode prog_1_method_23_code 27 = .ok (.bipush (-2), 2) := by decide +kernel
theorem dX11_strip_29 : decode prog_1_method_23_code 29 = .ok (.ireturn, 1) := by decide +kernel
theorem dX11_strip_30 : decode prog_1_method_23_code 30 = .ok (.aload_n 0, 1) := by decide +kernel
theorem dX11_strip_31 : decode prog_1_method_23_code 31 = .ok (.getfield 26, 3) := by decide +kernel
theorem dX11_strip_34 : decode prog_1_method_23_code 34 = .ok (.getfield 205, 3) := by decide +kernel
theorem dX11_strip_37 : decode prog_1_method_23_code 37 = .ok (.iload_n 1, 1) := by decide +kernel
theorem dX11_strip_38 : decode prog_1_method_23_code 38 = .ok (.iaload, 1) := by decide +kernel
theorem dX11_strip_39 : decode prog_1_method_23_code 39 = .ok (.ifCond .eq 15, 3) := by decide +kernel
theorem dX11_strip_42 : decode prog_1_method_23_code 42 = .ok (.aload_n 0, 1) := by decide +kernel
theorem dX11_strip_43 : decode prog_1_method_23_code 43 = .ok (.getfield 26, 3) := by decide +kernel
theorem dX11_strip_46 : decode prog_1_method_23_code 46 = .ok (.getfield 205, 3) := by decide +kernel
theorem dX11_strip_49 : decode prog_1_method_23_code 49 = .ok (.iload_n 2, 1) := by decide +kernel
theorem dX11_strip_50 : decode prog_1_method_23_code 50 = .ok (.iaload, 1) := by decide +kernel
theorem dX11_strip_51 : decode prog_1_method_23_code 51 = .ok (.ifCond .ne 6, 3) := by decide +kernel
theorem dX11_strip_54 : decode prog_1_method_23_code 54 = .ok (.bipush (-4), 2) := by decide +kernel
theorem dX11_strip_56 : decode prog_1_method_23_code 56 = .ok (.ireturn, 1) := by decide +kernel
theorem dX11_strip_57 : decode prog_1_method_23_code 57 = .ok (.aload_n 0, 1) := by decide +kernel
theorem dX11_strip_58 : decode prog_1_method_23_code 58 = .ok (.getfield 26, 3) := by decide +kernel
theorem dX11_strip_61 : decode prog_1_method_23_code 61 = .ok (.iload_n 1, 1) := by decide +kernel
theorem dX11_strip_62 : decode prog_1_method_23_code 62 = .ok (.invokevirtual 199, 3) := by decide +kernel
theorem dX11_strip_65 : decode prog_1_method_23_code 65 = .ok (.ifCond .eq 26, 3) := by decide +kernel
theorem dX11_strip_68 : decode prog_1_method_23_code 68 = .ok (.aload_n 0, 1) := by decide +kernel
theorem dX11_strip_69 : decode prog_1_method_23_code 69 = .ok (.getfield 26, 3) := by decide +kernel
theorem dX11_strip_72 : decode prog_1_method_23_code 72 = .ok (.iload_n 2, 1) := by decide +kernel
theorem dX11_strip_73 : decode prog_1_method_23_code 73 = .ok (.invokevirtual 199, 3) := by decide +kernel
theorem dX11_strip_76 : decode prog_1_method_23_code 76 = .ok (.ifCond .eq 15, 3) := by decide +kernel
theorem dX11_strip_79 : decode prog_1_method_23_code 79 = .ok (.aload_n 0, 1) := by decide +kernel
theorem dX11_strip_80 : decode prog_1_method_23_code 80 = .ok (.getfield 26, 3) := by decide +kernel
theorem dX11_strip_83 : decode prog_1_method_23_code 83 = .ok (.iload_n 1, 1) := by decide +kernel
theorem dX11_strip_84 : decode prog_1_method_23_code 84 = .ok (.iload_n 2, 1) := by decide +kernel
theorem dX11_strip_85 : decode prog_1_method_23_code 85 = .ok (.invokevirtual 202, 3) := by decide +kernel
theorem dX11_strip_88 : decode prog_1_method_23_code 88 = .ok (.goto 4, 3) := by decide +kernel
theorem dX11_strip_91 : decode prog_1_method_23_code 91 = .ok (.iconst (-1), 1) := by decide +kernel
theorem dX11_strip_92 : decode prog_1_method_23_code 92 = .ok (.ireturn, 1) := by decide +kernel
noncomputable def F_X11_strip (v1 : Int) (v2 : Int) (M : bM) : Option (Int × bM) :=
  b_bind (F_X5_has v1 M) (fun x1 => if x1 = 0 then (some ((-2), M)) else (b_bind (F_X5_has v2 M) (fun x3 => if x3 = 0 then (some ((-2), M)) else (if v1 = v2 then (some ((-2), M)) else (b_g (0 ≤ v1 ∧ v1 < 60) (if (M 94 v1) = 0 then (some ((-4), M)) else (b_g (0 ≤ v2 ∧ v2 < 60) (if (M 94 v2) = 0 then (some ((-4), M)) else (b_bind (F_X5_enclose v1 M) (fun t => b_two t (fun x10 M11 => if x10 = 0 then (some ((-1), M11)) else (b_bind (F_X5_enclose v2 M11) (fun t => b_two t (fun x13 M14 => if x13 = 0 then (some ((-1), M14)) else (b_bind (F_X5_within v1 v2 M14) (fun t => b_two t (fun x16 M17 => some (x16, M17))))))))))))))))))
theorem t_X11_strip {l : Launch} {E : bE} {Q : (Int × bM) → Prop} {v1 : Int} {v2 : Int} {M : bM} (h : b_wp (F_X11_strip v1 v2 M) (Q)) : V l E xX11_strip (0, 0) 0 [(0, bR 0), (1, bI v1), (2, bI v2)] [] M (b_pI Q) := by
  unfold F_X11_strip at h
  refine v_aload_n (f := 0) 0 rfl dX11_strip_0 ?_
  refine v_getR (kf := 2) (kz := 2) rfl kd_0 rfl ⟨by decide, by decide⟩ rfl wf_11_26 dX11_strip_1 ?_
  refine v_iload_n (f := 1) 1 rfl dX11_strip_4 ?_
  refine v_cVIp (nA := 1) (As := [bI _]) (ix := 146) (cf_X5_has (b_wp_b h)) rfl kd_3 rfl rfl wc_X5_has wm_11_146 wi_X5_has ws_X5_has wn_5 ⟨by decide, by decide, by decide⟩ rfl ⟨by decide, by decide⟩ ⟨by decide, by decide⟩ (Nat.le_of_ble_eq_true rfl) dX11_strip_5 (fun x1 h => ?_)
  refine v_if_eq (tgt := 27) dX11_strip_8 (by decide) (fun c2 => ?_) (fun c2 => ?_)
  · replace h := b_wp_t c2 h
    refine v_bipush ⟨by decide, by decide⟩ (by decide) dX11_strip_27 ?_
    refine v_ireturn rfl dX11_strip_29 ⟨by decide, by decide⟩ ?_
    exact ⟨_, rfl, h⟩
  · replace h := b_wp_f c2 h
    refine v_aload_n (f := 0) 0 rfl dX11_strip_11 ?_
    refine v_getR (kf := 2) (kz := 2) rfl kd_0 rfl ⟨by decide, by decide⟩ rfl wf_11_26 dX11_strip_12 ?_
    refine v_iload_n (f := 2) 2 rfl dX11_strip_15 ?_
    refine v_cVIp (nA := 1) (As := [bI _]) (ix := 146) (cf_X5_has (b_wp_b h)) rfl kd_3 rfl rfl wc_X5_has wm_11_146 wi_X5_has ws_X5_has wn_5 ⟨by decide, by decide, by decide⟩ rfl ⟨by decide, by decide⟩ ⟨by decide, by decide⟩ (Nat.le_of_ble_eq_true rfl) dX11_strip_16 (fun x3 h => ?_)
    refine v_if_eq (tgt := 27) dX11_strip_19 (by decide) (fun c4 => ?_) (fun c4 => ?_)
    · replace h := b_wp_t c4 h
      refine v_bipush ⟨by decide, by decide⟩ (by decide) dX11_strip_27 ?_
      refine v_ireturn rfl dX11_strip_29 ⟨by decide, by decide⟩ ?_
      exact ⟨_, rfl, h⟩
    · replace h := b_wp_f c4 h
      refine v_iload_n (f := 1) 1 rfl dX11_strip_22 ?_
      refine v_iload_n (f := 2) 2 rfl dX11_strip_23 ?_
      refine v_icmp_ne (tgt := 30) dX11_strip_24 (by decide) (fun c5 => ?_) (fun c5 => ?_)
      · replace h := b_wp_f c5 h
        obtain ⟨g6, h⟩ := b_wp_g h
        refine v_aload_n (f := 0) 0 rfl dX11_strip_30 ?_
        refine v_getR (kf := 2) (kz := 2) rfl kd_0 rfl ⟨by decide, by decide⟩ rfl wf_11_26 dX11_strip_31 ?_
        refine v_getR (kf := 10) (kz := 10) rfl kd_3 rfl ⟨by decide, by decide⟩ rfl wf_11_205 dX11_strip_34 ?_
        refine v_iload_n (f := 1) 1 rfl dX11_strip_37 ?_
        refine v_iaload kd_94 g6 (by decide) dX11_strip_38 ?_
        refine v_if_eq (tgt := 54) dX11_strip_39 (by decide) (fun c7 => ?_) (fun c7 => ?_)
        · replace h := b_wp_t c7 h
          refine v_bipush ⟨by decide, by decide⟩ (by decide) dX11_strip_54 ?_
          refine v_ireturn rfl dX11_strip_56 ⟨by decide, by decide⟩ ?_
          exact ⟨_, rfl, h⟩
        · replace h := b_wp_f c7 h
          obtain ⟨g8, h⟩ := b_wp_g h
          refine v_aload_n (f := 0) 0 rfl dX11_strip_42 ?_
          refine v_getR (kf := 2) (kz := 2) rfl kd_0 rfl ⟨by decide, by decide⟩ rfl wf_11_26 dX11_strip_43 ?_
          refine v_getR (kf := 10) (kz := 10) rfl kd_3 rfl ⟨by decide, by decide⟩ rfl wf_11_205 dX11_strip_46 ?_
          refine v_iload_n (f := 2) 2 rfl dX11_strip_49 ?_
          refine v_iaload kd_94 g8 (by decide) dX11_strip_50 ?_
          refine v_if_ne (tgt := 57) dX11_strip_51 (by decide) (fun c9 => ?_) (fun c9 => ?_)
          · replace h := b_wp_f c9 h
            refine v_aload_n (f := 0) 0 rfl dX11_strip_57 ?_
            refine v_getR (kf := 2) (kz := 2) rfl kd_0 rfl ⟨by decide, by decide⟩ rfl wf_11_26 dX11_strip_58 ?_
            refine v_iload_n (f := 1) 1 rfl dX11_strip_61 ?_
            refine v_cVI (nA := 1) (As := [bI _]) (ix := 199) (cf_X5_enclose (b_wp_b h)) rfl kd_3 rfl rfl wc_X5_enclose wm_11_199 wi_X5_enclose ws_X5_enclose wn_5 ⟨by decide, by decide, by decide⟩ rfl ⟨by decide, by decide⟩ ⟨by decide, by decide⟩ (Nat.le_of_ble_eq_true rfl) dX11_strip_62 (fun x10 M11 h => ?_)
            replace h := b_wp_two h
            refine v_if_eq (tgt := 91) dX11_strip_65 (by decide) (fun c12 => ?_) (fun c12 => ?_)
            · replace h := b_wp_t c12 h
              refine v_iconst ⟨by decide, by decide⟩ dX11_strip_91 ?_
              refine v_ireturn rfl dX11_strip_92 ⟨by decide, by decide⟩ ?_
              exact ⟨_, rfl, h⟩
            · replace h := b_wp_f c12 h
              refine v_aload_n (f := 0) 0 rfl dX11_strip_68 ?_
              refine v_getR (kf := 2) (kz := 2) rfl kd_0 rfl ⟨by decide, by decide⟩ rfl wf_11_26 dX11_strip_69 ?_
              refine v_iload_n (f := 2) 2 rfl dX11_strip_72 ?_
              refine v_cVI (nA := 1) (As := [bI _]) (ix := 199) (cf_X5_enclose (b_wp_b h)) rfl kd_3 rfl rfl wc_X5_enclose wm_11_199 wi_X5_enclose ws_X5_enclose wn_5 ⟨by decide, by decide, by decide⟩ rfl ⟨by decide, by decide⟩ ⟨by decide, by decide⟩ (Nat.le_of_ble_eq_true rfl) dX11_strip_73 (fun x13 M14 h => ?_)
              replace h := b_wp_two h
              refine v_if_eq (tgt := 91) dX11_strip_76 (by decide) (fun c15 => ?_) (fun c15 => ?_)
              · replace h := b_wp_t c15 h
                refine v_iconst ⟨by decide, by decide⟩ dX11_strip_91 ?_
                refine v_ireturn rfl dX11_strip_92 ⟨by decide, by decide⟩ ?_
                exact ⟨_, rfl, h⟩
              · replace h := b_wp_f c15 h
                refine v_aload_n (f := 0) 0 rfl dX11_strip_79 ?_
                refine v_getR (kf := 2) (kz := 2) rfl kd_0 rfl ⟨by decide, by decide⟩ rfl wf_11_26 dX11_strip_80 ?_
                refine v_iload_n (f := 1) 1 rfl dX11_strip_83 ?_
                refine v_iload_n (f := 2) 2 rfl dX11_strip_84 ?_
                refine v_cVI (nA := 2) (As := [bI _, bI _]) (ix := 202) (cf_X5_within (b_wp_b h)) rfl kd_3 rfl rfl wc_X5_within wm_11_202 wi_X5_within ws_X5_within wn_5 ⟨by decide, by decide, by decide⟩ rfl ⟨by decide, by decide⟩ ⟨by decide, by decide⟩ (Nat.le_of_ble_eq_true rfl) dX11_strip_85 (fun x16 M17 h => ?_)
                replace h := b_wp_two h
                refine v_goto (tgt := 92) dX11_strip_88 (by decide) ?_
                refine v_ireturn rfl dX11_strip_92 ⟨by decide, by decide⟩ ?_
                exact ⟨_, rfl, h⟩
          · replace h := b_wp_t c9 h
            refine v_bipush ⟨by decide, by decide⟩ (by decide) dX11_strip_54 ?_
            refine v_ireturn rfl dX11_strip_56 ⟨by decide, by decide⟩ ?_
            exact ⟨_, rfl, h⟩
      · replace h := b_wp_t c5 h
        refine v_bipush ⟨by decide, by decide⟩ (by decide) dX11_strip_27 ?_
        refine v_ireturn rfl dX11_strip_29 ⟨by decide, by decide⟩ ?_
        exact ⟨_, rfl, h⟩
theorem cf_X11_strip {l : Launch} {E : bE} {M : bM} {v1 : Int} {v2 : Int} {Q : (Int × bM) → Prop} (h : b_wp (F_X11_strip v1 v2 M) Q) : b_C l E xX11_strip yX11_strip [bR 0, bI v1, bI v2] M (b_pI Q) := b_met (by decide) ⟨rfl, rfl⟩ (Nat.le_of_ble_eq_true rfl) (fun _ _ => t_X11_strip h)
abbrev xX1_slot : bX := ("BurntHall$Acts", prog_3_method_4_code, 2, (Option.some (Jvm.ClassFile.FieldType.object "BurntHall$Act")), b_rm 1 0 0, 0, "slot")
abbrev yX1_slot : MethodName := ⟨"BurntHall$Acts", "slot", "(I)LBurntHall$Act;"⟩
theorem dX1_slot_0 : decode prog_3_method_4_code 0 = .ok (.iload_n 1, 1) := by decide +kernel
theorem dX1_slot_1 : decode prog_3_method_4_code 1 = .ok (.ifCond .lt 21, 3) := by decide +kernel
theorem dX1_slot_4 : decode prog_3_method_4_code 4 = .ok (.iload_n 1, 1) := by decide +kernel
theorem dX1_slot_5 : decode prog_3_method_4_code 5 = .ok (.aload_n 0, 1) := by decide +kernel
theorem dX1_slot_6 : decode prog_3_method_4_code 6 = .ok (.getfield 13, 3) := by decide +kernel
theorem dX1_slot_9 : decode prog_3_method_4_code 9 = .ok (.arraylength, 1) := by decide +kernel
theorem dX1_slot_10 : decode prog_3_method_4_code 10 = .ok (.if_icmp .ge 12, 3) := by decide +kernel
theorem dX1_slot_13 : decode prog_3_method_4_code 13 = .ok (.aload_n 0, 1) := by decide +kernel
theorem dX1_slot_14 : decode prog_3_method_4_code 14 = .ok (.getfield 13, 3) := by decide +kernel
theorem dX1_slot_17 : decode prog_3_method_4_code 17 = .ok (.iload_n 1, 1) := by decide +kernel
theorem dX1_slot_18 : decode prog_3_method_4_code 18 = .ok (.aaload, 1) := by decide +kernel
theorem dX1_slot_19 : decode prog_3_method_4_code 19 = .ok (.goto 9, 3) := by decide +kernel
theorem dX1_slot_22 : decode prog_3_method_4_code 22 = .ok (.aload_n 0, 1) := by decide +kernel
theorem dX1_slot_23 : decode prog_3_method_4_code 23 = .ok (.getfield 13, 3) := by decide +kernel
theorem dX1_slot_26 : decode prog_3_method_4_code 26 = .ok (.iconst 0, 1) := by decide +kernel
theorem dX1_slot_27 : decode prog_3_method_4_code 27 = .ok (.aaload, 1) := by decide +kernel
theorem dX1_slot_28 : decode prog_3_method_4_code 28 = .ok (.areturn, 1) := by decide +kernel
noncomputable def F_X1_slot_b28 (u0 : Nat) (M : bM) : Option (Nat) :=
  some u0
theorem t_X1_slot_b28 {l : Launch} {E : bE} {Q : Nat → Prop} {u0 : Nat} {M : bM} (h : b_wp (F_X1_slot_b28 u0 M) (Q)) : V l E xX1_slot (0, 0) 28 [] [bR u0] M (b_pAp M Q) := by
  unfold F_X1_slot_b28 at h
  refine v_areturn rfl (Or.inl ⟨_, rfl⟩) dX1_slot_28 ⟨by decide, by decide⟩ ?_
  exact ⟨_, rfl, rfl, h⟩
noncomputable def F_X1_slot_b22 (M : bM) : Option (Nat) :=
  F_X1_slot_b28 (12 + (0 : Int).toNat) M
theorem t_X1_slot_b22 {l : Launch} {E : bE} {Q : Nat → Prop} {M : bM} (h : b_wp (F_X1_slot_b22 M) (Q)) : V l E xX1_slot (0, 0) 22 [(0, bR 4)] [] M (b_pAp M Q) := by
  unfold F_X1_slot_b22 at h
  refine v_aload_n (f := 0) 0 rfl dX1_slot_22 ?_
  refine v_getR (kf := 5) (kz := 5) rfl kd_4 rfl ⟨by decide, by decide⟩ rfl wf_1_13 dX1_slot_23 ?_
  refine v_iconst ⟨by decide, by decide⟩ dX1_slot_26 ?_
  refine v_aaload kd_107 ⟨by decide, by decide⟩ (by decide) dX1_slot_27 ?_
  refine v_sub (ls2 := []) [] rfl ?_
  exact t_X1_slot_b28 h
noncomputable def F_X1_slot (v1 : Int) (M : bM) : Option (Nat) :=
  if v1 < 0 then (F_X1_slot_b22 M) else (if 10 ≤ v1 then (F_X1_slot_b22 M) else (b_g (0 ≤ v1 ∧ v1 < 10) (F_X1_slot_b28 (12 + v1.toNat) M)))
theorem t_X1_slot {l : Launch} {E : bE} {Q : Nat → Prop} {v1 : Int} {M : bM} (h : b_wp (F_X1_slot v1 M) (Q)) : V l E xX1_slot (0, 0) 0 [(0, bR 4), (1, bI v1)] [] M (b_pAp M Q) := by
  unfold F_X1_slot at h
  refine v_iload_n (f := 1) 1 rfl dX1_slot_0 ?_
  refine v_if_lt (tgt := 22) dX1_slot_1 (by decide) (fun c1 => ?_) (fun c1 => ?_)
  · replace h := b_wp_t c1 h
    refine v_sub (ls2 := [(0, bR _)]) [0] rfl ?_
    exact t_X1_slot_b22 h
  · replace h := b_wp_f c1 h
    refine v_iload_n (f := 1) 1 rfl dX1_slot_4 ?_
    refine v_aload_n (f := 0) 0 rfl dX1_slot_5 ?_
    refine v_getR (kf := 5) (kz := 5) rfl kd_4 rfl ⟨by decide, by decide⟩ rfl wf_1_13 dX1_slot_6 ?_
    refine v_alen5 kd_107 (by decide) dX1_slot_9 ?_
    refine v_icmp_ge (tgt := 22) dX1_slot_10 (by decide) (fun c2 => ?_) (fun c2 => ?_)
    · replace h := b_wp_t c2 h
      refine v_sub (ls2 := [(0, bR _)]) [0] rfl ?_
      exact t_X1_slot_b22 h
    · replace h := b_wp_f c2 h
      obtain ⟨g3, h⟩ := b_wp_g h
      refine v_aload_n (f := 0) 0 rfl dX1_slot_13 ?_
      refine v_getR (kf := 5) (kz := 5) rfl kd_4 rfl ⟨by decide, by decide⟩ rfl wf_1_13 dX1_slot_14 ?_
      refine v_iload_n (f := 1) 1 rfl dX1_slot_17 ?_
      refine v_aaload kd_107 g3 (by decide) dX1_slot_18 ?_
      refine v_goto (tgt := 28) dX1_slot_19 (by decide) ?_
      refine v_sub (ls2 := []) [] rfl ?_
      exact t_X1_slot_b28 h
theorem cf_X1_slot {l : Launch} {E : bE} {M : bM} {v1 : Int} {Q : Nat → Prop} (h : b_wp (F_X1_slot v1 M) Q) : b_C l E xX1_slot yX1_slot [bR 4, bI v1] M (b_pAp M Q) := b_met (by decide) ⟨rfl, rfl⟩ (Nat.le_of_ble_eq_true rfl) (fun _ _ => t_X1_slot h)
abbrev xX0_reset : bX := ("BurntHall$Act", prog_2_method_2_code, 1, (Option.none : Option Jvm.ClassFile.FieldType), b_rm 1 0 0, 0, "reset")
abbrev yX0_reset : MethodName := ⟨"BurntHall$Act", "reset", "()V"⟩
theorem dX0_reset_0 : decode prog_2_method_2_code 0 = .ok (.getstatic 23, 3) := by decide +kernel
theorem dX0_reset_3 : decode prog_2_method_2_code 3 = .ok (.iconst 0, 1) := by decide +kernel
theorem dX0_reset_4 : decode prog_2_method_2_code 4 = .ok (.aload_n 0, 1) := by decide +kernel
theorem dX0_reset_5 : decode prog_2_method_2_code 5 = .ok (.getfield 9, 3) := by decide +kernel
theorem dX0_reset_8 : decode prog_2_method_2_code 8 = .ok (.iconst 0, 1) := by decide +kernel
theorem dX0_reset_9 : decode prog_2_method_2_code 9 = .ok (.bipush 10, 2) := by decide +kernel
theorem dX0_reset_11 : decode prog_2_method_2_code 11 = .ok (.invokestatic 26, 3) := by decide +kernel
theorem dX0_reset_14 : decode prog_2_method_2_code 14 = .ok (.aload_n 0, 1) := by decide +kernel
theorem dX0_reset_15 : decode prog_2_method_2_code 15 = .ok (.iconst 0, 1) := by decide +kernel
theorem dX0_reset_16 : decode prog_2_method_2_code 16 = .ok (.putfield 32, 3) := by decide +kernel
theorem dX0_reset_19 : decode prog_2_method_2_code 19 = .ok (.return_, 1) := by decide +kernel
noncomputable def F_X0_reset_a (v0 : Nat) (M : bM) : Option (bM) :=
  b_g ((12 ≤ v0 ∧ v0 < 22) ∧ (0 ≤ (0 : Int) ∧ 0 ≤ (0 : Int) ∧ 0 ≤ (10 : Int) ∧ (0 : Int) + 10 ≤ 10 ∧ (0 : Int) + 10 ≤ 10)) (b_let (b_set M (v0 + 10) (s_cpy s_u0 (M (v0 + 10)) 0 0 10)) (fun M3 => b_let (b_up M3 v0 1 0) (fun M4 => some M4)))
theorem t_X0_reset_a {l : Launch} {E : bE} {Q : bM → Prop} {v0 : Nat} {M : bM} (hfg : b_fg E) (h : b_wp (F_X0_reset_a v0 M) (Q)) : V l E xX0_reset (0, 0) 0 [(0, bR v0)] [] M (b_pV Q) := by
  unfold F_X0_reset_a at h
  obtain ⟨⟨g1, g2⟩, h⟩ := b_wp_g h
  refine f_getsR (c2 := 2020) (by decide) (hfg.2.2.2.2.2.2.2.2.2.2.2.1) wf_0_23 dX0_reset_0 ?_
  refine v_iconst ⟨by decide, by decide⟩ dX0_reset_3 ?_
  refine v_aload_n (f := 0) 0 rfl dX0_reset_4 ?_
  refine v_getO (kf := 2) (kz := 2) rfl (kd_act0 g1) rfl ⟨by decide, by decide⟩ rfl wf_0_9 dX0_reset_5 ?_
  refine v_iconst ⟨by decide, by decide⟩ dX0_reset_8 ?_
  refine v_bipush ⟨by decide, by decide⟩ (by decide) dX0_reset_9 ?_
  refine f_copyI (by decide) (hfg.2.2.2.2.2.2.2.2.2.2.2.2.1) s_u0_r (b_in (kd_act10 g1) (by simp)) (kd_act10 g1) g2 wm_0_26 ⟨by decide, by decide⟩ (Nat.le_of_ble_eq_true rfl) dX0_reset_11 ?_
  replace h := b_wp_l h
  refine v_aload_n (f := 0) 0 rfl dX0_reset_14 ?_
  refine v_iconst ⟨by decide, by decide⟩ dX0_reset_15 ?_
  refine v_putI (kf := 1) (kz := 1) rfl (kd_act0 g1) rfl ⟨by decide, by decide⟩ rfl wf_0_32 rfl rfl dX0_reset_16 ?_
  replace h := b_wp_l h
  refine v_return rfl dX0_reset_19 ⟨by decide, by decide⟩ ?_
  exact ⟨rfl, h⟩
theorem cf_X0_reset_a {l : Launch} {E : bE} {M : bM} {v0 : Nat} (hfg : b_fg E) {Q : bM → Prop} (h : b_wp (F_X0_reset_a v0 M) Q) : b_C l E xX0_reset yX0_reset [bR v0] M (b_pV Q) := b_met (by decide) ⟨rfl, rfl⟩ (Nat.le_of_ble_eq_true rfl) (fun _ _ => t_X0_reset_a hfg h)
abbrev xX1_placeOf : bX := ("BurntHall$Acts", prog_3_method_19_code, 3, (Option.some Jvm.ClassFile.FieldType.int), b_rm 1 0 0, 0, "placeOf")
abbrev yX1_placeOf : MethodName := ⟨"BurntHall$Acts", "placeOf", "([J)I"⟩
theorem dX1_placeOf_0 : decode prog_3_method_19_code 0 = .ok (.iconst 0, 1) := by decide +kernel
theorem dX1_placeOf_1 : decode prog_3_method_19_code 1 = .ok (.istore_n 2, 1) := by decide +kernel
theorem dX1_placeOf_2 : decode prog_3_method_19_code 2 = .ok (.iload_n 2, 1) := by decide +kernel
theorem dX1_placeOf_3 : decode prog_3_method_19_code 3 = .ok (.aload_n 1, 1) := by decide +kernel
theorem dX1_placeOf_4 : decode prog_3_method_19_code 4 = .ok (.arraylength, 1) := by decide +kernel
theorem dX1_placeOf_5 : decode prog_3_method_19_code 5 = .ok (.if_icmp .ge 36, 3) := by decide +kernel
theorem dX1_placeOf_8 : decode prog_3_method_19_code 8 = .ok (.aload_n 0, 1) := by decide +kernel
theorem dX1_placeOf_9 : decode prog_3_method_19_code 9 = .ok (.getfield 27, 3) := by decide +kernel
theorem dX1_placeOf_12 : decode prog_3_method_19_code 12 = .ok (.getfield 86, 3) := by decide +kernel
theorem dX1_placeOf_15 : decode prog_3_method_19_code 15 = .ok (.iconst 1, 1) := by decide +kernel
theorem dX1_placeOf_16 : decode prog_3_method_19_code 16 = .ok (.if_icmp .ne 19, 3) := by decide +kernel
theorem dX1_placeOf_19 : decode prog_3_method_19_code 19 = .ok (.aload_n 0, 1) := by decide +kernel
theorem dX1_placeOf_20 : decode prog_3_method_19_code 20 = .ok (.getfield 27, 3) := by decide +kernel
theorem dX1_placeOf_23 : decode prog_3_method_19_code 23 = .ok (.getfield 172, 3) := by decide +kernel
theorem dX1_placeOf_26 : decode prog_3_method_19_code 26 = .ok (.aload_n 1, 1) := by decide +kernel
theorem dX1_placeOf_27 : decode prog_3_method_19_code 27 = .ok (.iload_n 2, 1) := by decide +kernel
theorem dX1_placeOf_28 : decode prog_3_method_19_code 28 = .ok (.laload, 1) := by decide +kernel
theorem dX1_placeOf_29 : decode prog_3_method_19_code 29 = .ok (.lcmp, 1) := by decide +kernel
theorem dX1_placeOf_30 : decode prog_3_method_19_code 30 = .ok (.ifCond .ne 5, 3) := by decide +kernel
theorem dX1_placeOf_33 : decode prog_3_method_19_code 33 = .ok (.iload_n 2, 1) := by decide +kernel
theorem dX1_placeOf_34 : decode prog_3_method_19_code 34 = .ok (.ireturn, 1) := by decide +kernel
theorem dX1_placeOf_35 : decode prog_3_method_19_code 35 = .ok (.iinc 2 1, 3) := by decide +kernel
theorem dX1_placeOf_38 : decode prog_3_method_19_code 38 = .ok (.goto (-36), 3) := by decide +kernel
theorem dX1_placeOf_41 : decode prog_3_method_19_code 41 = .ok (.iconst (-1), 1) := by decide +kernel
theorem dX1_placeOf_42 : decode prog_3_method_19_code 42 = .ok (.ireturn, 1) := by decide +kernel
abbrev A_X1_placeOf_104_2 (l : Launch) (E : bE) (Q : Int → Prop) (M : bM) : (Int) → Prop := (fun t : Int => V l E xX1_placeOf (0, 0) 2 [(0, bR 4), (1, bR 104), (2, bI t)] [] M (b_pIp M Q))
abbrev X_X1_placeOf_104_2 (l : Launch) (E : bE) (Q : Int → Prop) (M : bM) : ((Unit) ⊕ Int) → Prop := (Sum.elim (fun t : Unit => V l E xX1_placeOf (0, 0) 41 [] [] M (b_pIp M Q)) Q)
noncomputable def F_X1_placeOf_104_s2 (v2 : Int) (M : bM) : Option ((Int) ⊕ ((Unit) ⊕ Int)) :=
  if 11 ≤ v2 then (some (.inr (.inl ()))) else (if (M 1 2) = 1 then (b_g (0 ≤ v2 ∧ v2 < 11) (if (j_cmp (M 1 4) (M 104 v2)) = 0 then (some (.inr (.inr v2))) else (b_g (b_i32 (v2 + 1)) (some (.inl ((v2 + 1))))))) else (b_g (b_i32 (v2 + 1)) (some (.inl ((v2 + 1))))))
theorem t_X1_placeOf_104_s2 {l : Launch} {E : bE} {Q : Int → Prop} {v2 : Int} {M : bM} (h : b_wp (F_X1_placeOf_104_s2 v2 M) (Sum.elim (A_X1_placeOf_104_2 l E Q M) (X_X1_placeOf_104_2 l E Q M))) : V l E xX1_placeOf (0, 0) 2 [(0, bR 4), (1, bR 104), (2, bI v2)] [] M (b_pIp M Q) := by
  unfold F_X1_placeOf_104_s2 at h
  refine v_iload_n (f := 2) 2 rfl dX1_placeOf_2 ?_
  refine v_aload_n (f := 1) 1 rfl dX1_placeOf_3 ?_
  refine v_alen4 kd_104 (by decide) dX1_placeOf_4 ?_
  refine v_icmp_ge (tgt := 41) dX1_placeOf_5 (by decide) (fun c1 => ?_) (fun c1 => ?_)
  · replace h := b_wp_t c1 h
    refine v_sub (ls2 := []) [] rfl ?_
    exact h
  · replace h := b_wp_f c1 h
    refine v_aload_n (f := 0) 0 rfl dX1_placeOf_8 ?_
    refine v_getR (kf := 1) (kz := 1) rfl kd_4 rfl ⟨by decide, by decide⟩ rfl wf_1_27 dX1_placeOf_9 ?_
    refine v_getI (kf := 2) (kz := 2) rfl kd_1 rfl ⟨by decide, by decide⟩ rfl wf_1_86 dX1_placeOf_12 ?_
    refine v_iconst ⟨by decide, by decide⟩ dX1_placeOf_15 ?_
    refine v_icmp_ne (tgt := 35) dX1_placeOf_16 (by decide) (fun c2 => ?_) (fun c2 => ?_)
    · replace h := b_wp_f c2 h
      obtain ⟨g3, h⟩ := b_wp_g h
      refine v_iincN (ls' := [(2, bI _), (0, bR _), (1, bR _)]) 2 rfl (by decide) g3 dX1_placeOf_35 rfl ?_
      refine v_goto (tgt := 2) dX1_placeOf_38 (by decide) ?_
      refine v_sub (ls2 := [(0, bR _), (1, bR _), (2, bI _)]) [1, 2, 0] rfl ?_
      exact h
    · replace h := b_wp_t c2 h
      obtain ⟨g4, h⟩ := b_wp_g h
      refine v_aload_n (f := 0) 0 rfl dX1_placeOf_19 ?_
      refine v_getR (kf := 1) (kz := 1) rfl kd_4 rfl ⟨by decide, by decide⟩ rfl wf_1_27 dX1_placeOf_20 ?_
      refine v_getJ (kf := 4) (kz := 4) rfl kd_1 rfl ⟨by decide, by decide⟩ rfl wf_1_172 dX1_placeOf_23 ?_
      refine v_aload_n (f := 1) 1 rfl dX1_placeOf_26 ?_
      refine v_iload_n (f := 2) 2 rfl dX1_placeOf_27 ?_
      refine v_laload kd_104 g4 (by decide) dX1_placeOf_28 ?_
      refine v_lcmpN dX1_placeOf_29 ?_
      refine v_if_ne (tgt := 35) dX1_placeOf_30 (by decide) (fun c5 => ?_) (fun c5 => ?_)
      · replace h := b_wp_f c5 h
        obtain ⟨g6, h⟩ := b_wp_g h
        refine v_iincN (ls' := [(2, bI _), (0, bR _), (1, bR _)]) 2 rfl (by decide) g6 dX1_placeOf_35 rfl ?_
        refine v_goto (tgt := 2) dX1_placeOf_38 (by decide) ?_
        refine v_sub (ls2 := [(0, bR _), (1, bR _), (2, bI _)]) [1, 2, 0] rfl ?_
        exact h
      · replace h := b_wp_t c5 h
        refine v_iload_n (f := 2) 2 rfl dX1_placeOf_33 ?_
        refine v_ireturn rfl dX1_placeOf_34 ⟨by decide, by decide⟩ ?_
        exact ⟨_, rfl, rfl, h⟩
theorem l_X1_placeOf_104_2 {l : Launch} {E : bE} {Q : Int → Prop} {M : bM} {s : Int} (h : b_wp (b_loop (fun t => F_X1_placeOf_104_s2 t M) s) (X_X1_placeOf_104_2 l E Q M)) : A_X1_placeOf_104_2 l E Q M s := b_loop_wp (fun t h => t_X1_placeOf_104_s2 h) s h
noncomputable def F_X1_placeOf_104_b41 (M : bM) : Option (Int) :=
  some (-1)
theorem t_X1_placeOf_104_b41 {l : Launch} {E : bE} {Q : Int → Prop} {M : bM} (h : b_wp (F_X1_placeOf_104_b41 M) (Q)) : V l E xX1_placeOf (0, 0) 41 [] [] M (b_pIp M Q) := by
  unfold F_X1_placeOf_104_b41 at h
  refine v_iconst ⟨by decide, by decide⟩ dX1_placeOf_41 ?_
  refine v_ireturn rfl dX1_placeOf_42 ⟨by decide, by decide⟩ ?_
  exact ⟨_, rfl, rfl, h⟩
noncomputable def F_X1_placeOf_104 (M : bM) : Option (Int) :=
  b_bind (b_loop (fun t => F_X1_placeOf_104_s2 t M) (0)) (Sum.elim (fun t => F_X1_placeOf_104_b41 M) some)
theorem t_X1_placeOf_104 {l : Launch} {E : bE} {Q : Int → Prop} {M : bM} (h : b_wp (F_X1_placeOf_104 M) (Q)) : V l E xX1_placeOf (0, 0) 0 [(0, bR 4), (1, bR 104)] [] M (b_pIp M Q) := by
  unfold F_X1_placeOf_104 at h
  refine v_iconst ⟨by decide, by decide⟩ dX1_placeOf_0 ?_
  refine v_istore_n (g := 2) (i := 2) (ls' := [(2, bI _), (0, bR _), (1, bR _)]) rfl (by decide) dX1_placeOf_1 rfl ?_
  refine v_sub (ls2 := [(0, bR _), (1, bR _), (2, bI _)]) [1, 2, 0] rfl ?_
  refine l_X1_placeOf_104_2 (b_wp_m (fun t h => ?_) (b_wp_b h))
  cases t with
  | inr o => exact h
  | inl t =>
    show V l E xX1_placeOf (0, 0) 41 [] [] _ (b_pIp M Q)
    replace h := b_wp_inl h
    exact t_X1_placeOf_104_b41 h
theorem cf_X1_placeOf_104 {l : Launch} {E : bE} {M : bM} {Q : Int → Prop} (h : b_wp (F_X1_placeOf_104 M) Q) : b_C l E xX1_placeOf yX1_placeOf [bR 4, bR 104] M (b_pIp M Q) := b_met (by decide) ⟨rfl, rfl⟩ (Nat.le_of_ble_eq_true rfl) (fun _ _ => t_X1_placeOf_104 h)
abbrev xX1_isNumber : bX := ("BurntHall$Acts", prog_3_method_18_code, 4, (Option.some Jvm.ClassFile.FieldType.boolean), b_rm 2 0 0, 0, "isNumber")
abbrev yX1_isNumber : MethodName := ⟨"BurntHall$Acts", "isNumber", "(II)Z"⟩
theorem dX1_isNumber_0 : decode prog_3_method_18_code 0 = .ok (.aload_n 0, 1) := by decide +kernel
theorem dX1_isNumber_1 : decode prog_3_method_18_code 1 = .ok (.getfield 27, 3) := by decide +kernel
theorem dX1_isNumber_4 : decode prog_3_method_18_code 4 = .ok (.getfield 86, 3) := by decide +kernel
theorem dX1_isNumber_7 : decode prog_3_method_18_code 7 = .ok (.iconst 2, 1) := by decide +kernel
theorem dX1_isNumber_8 : decode prog_3_method_18_code 8 = .ok (.if_icmp .eq 12, 3) := by decide +kernel
theorem dX1_isNumber_11 : decode prog_3_method_18_code 11 = .ok (.aload_n 0, 1) := by decide +kernel
theorem dX1_isNumber_12 : decode prog_3_method_18_code 12 = .ok (.getfield 27, 3) := by decide +kernel
theorem dX1_isNumber_15 : decode prog_3_method_18_code 15 = .ok (.iconst 1, 1) := by decide +kernel
theorem dX1_isNumber_16 : decode prog_3_method_18_code 16 = .ok (.invokevirtual 105, 3) := by decide +kernel
theorem dX1_isNumber_19 : decode prog_3_method_18_code 19 = .ok (.ireturn, 1) := by decide +kernel
theorem dX1_isNumber_20 : decode prog_3_method_18_code 20 = .ok (.aload_n 0, 1) := by decide +kernel
theorem dX1_isNumber_21 : decode prog_3_method_18_code 21 = .ok (.getfield 27, 3) := by decide +kernel
theorem dX1_isNumber_24 : decode prog_3_method_18_code 24 = .ok (.invokevirtual 125, 3) := by decide +kernel
theorem dX1_isNumber_27 : decode prog_3_method_18_code 27 = .ok (.iload_n 1, 1) := by decide +kernel
theorem dX1_isNumber_28 : decode prog_3_method_18_code 28 = .ok (.if_icmp .lt 18, 3) := by decide +kernel
theorem dX1_isNumber_31 : decode prog_3_method_18_code 31 = .ok (.aload_n 0, 1) := by decide +kernel
theorem dX1_isNumber_32 : decode prog_3_method_18_code 32 = .ok (.getfield 27, 3) := by decide +kernel
theorem dX1_isNumber_35 : decode prog_3_method_18_code 35 = .ok (.invokevirtual 125, 3) := by decide +kernel
theorem dX1_isNumber_38 : decode prog_3_method_18_code 38 = .ok (.iload_n 2, 1) := by decide +kernel
theorem dX1_isNumber_39 : decode prog_3_method_18_code 39 = .ok (.if_icmp .gt 7, 3) := by decide +kernel
theorem dX1_isNumber_42 : decode prog_3_method_18_code 42 = .ok (.iconst 1, 1) := by decide +kernel
theorem dX1_isNumber_43 : decode prog_3_method_18_code 43 = .ok (.goto 4, 3) := by decide +kernel
theorem dX1_isNumber_46 : decode prog_3_method_18_code 46 = .ok (.iconst 0, 1) := by decide +kernel
theorem dX1_isNumber_47 : decode prog_3_method_18_code 47 = .ok (.istore_n 3, 1) := by decide +kernel
theorem dX1_isNumber_48 : decode prog_3_method_18_code 48 = .ok (.iload_n 3, 1) := by decide +kernel
theorem dX1_isNumber_49 : decode prog_3_method_18_code 49 = .ok (.ifCond .ne 14, 3) := by decide +kernel
theorem dX1_isNumber_52 : decode prog_3_method_18_code 52 = .ok (.aload_n 0, 1) := by decide +kernel
theorem dX1_isNumber_53 : decode prog_3_method_18_code 53 = .ok (.getfield 27, 3) := by decide +kernel
theorem dX1_isNumber_56 : decode prog_3_method_18_code 56 = .ok (.iconst 2, 1) := by decide +kernel
theorem dX1_isNumber_57 : decode prog_3_method_18_code 57 = .ok (.invokevirtual 105, 3) := by decide +kernel
theorem dX1_isNumber_60 : decode prog_3_method_18_code 60 = .ok (.ifCond .eq 7, 3) := by decide +kernel
theorem dX1_isNumber_63 : decode prog_3_method_18_code 63 = .ok (.iconst 1, 1) := by decide +kernel
theorem dX1_isNumber_64 : decode prog_3_method_18_code 64 = .ok (.goto 4, 3) := by decide +kernel
theorem dX1_isNumber_67 : decode prog_3_method_18_code 67 = .ok (.iconst 0, 1) := by decide +kernel
theorem dX1_isNumber_68 : decode prog_3_method_18_code 68 = .ok (.ireturn, 1) := by decide +kernel
noncomputable def F_X1_isNumber_b47 (u0 : Int) (M : bM) : Option (Int × bM) :=
  if u0 = 0 then (b_bind (F_X10_wrong 2 M) (fun t => b_two t (fun x5 M6 => if x5 = 0 then (some (0, M6)) else (some (1, M6))))) else (some (1, M))
theorem t_X1_isNumber_b47 {l : Launch} {E : bE} {Q : (Int × bM) → Prop} {u0 : Int} {M : bM} (h : b_wp (F_X1_isNumber_b47 u0 M) (Q)) : V l E xX1_isNumber (0, 0) 47 [(0, bR 4)] [bI u0] M (b_pI Q) := by
  unfold F_X1_isNumber_b47 at h
  refine v_istore_n (g := 3) (i := 3) (ls' := [(3, bI _), (0, bR _)]) rfl (by decide) dX1_isNumber_47 rfl ?_
  refine v_iload_n (f := 3) 0 rfl dX1_isNumber_48 ?_
  refine v_if_ne (tgt := 63) dX1_isNumber_49 (by decide) (fun c4 => ?_) (fun c4 => ?_)
  · replace h := b_wp_f c4 h
    refine v_iconst ⟨by decide, by decide⟩ dX1_isNumber_63 ?_
    refine v_goto (tgt := 68) dX1_isNumber_64 (by decide) ?_
    refine v_zreturn rfl (Or.inr rfl) dX1_isNumber_68 ⟨by decide, by decide⟩ ?_
    exact ⟨_, rfl, h⟩
  · replace h := b_wp_t c4 h
    refine v_aload_n (f := 0) 1 rfl dX1_isNumber_52 ?_
    refine v_getR (kf := 1) (kz := 1) rfl kd_4 rfl ⟨by decide, by decide⟩ rfl wf_1_27 dX1_isNumber_53 ?_
    refine v_iconst ⟨by decide, by decide⟩ dX1_isNumber_56 ?_
    refine v_cVI (nA := 1) (As := [bI _]) (ix := 105) (cf_X10_wrong (b_wp_b h)) rfl kd_1 rfl rfl wc_X10_wrong wm_1_105 wi_X10_wrong ws_X10_wrong wn_10 ⟨by decide, by decide, by decide⟩ rfl ⟨by decide, by decide⟩ ⟨by decide, by decide⟩ (Nat.le_of_ble_eq_true rfl) dX1_isNumber_57 (fun x5 M6 h => ?_)
    replace h := b_wp_two h
    refine v_if_eq (tgt := 67) dX1_isNumber_60 (by decide) (fun c7 => ?_) (fun c7 => ?_)
    · replace h := b_wp_t c7 h
      refine v_iconst ⟨by decide, by decide⟩ dX1_isNumber_67 ?_
      refine v_zreturn rfl (Or.inl rfl) dX1_isNumber_68 ⟨by decide, by decide⟩ ?_
      exact ⟨_, rfl, h⟩
    · replace h := b_wp_f c7 h
      refine v_iconst ⟨by decide, by decide⟩ dX1_isNumber_63 ?_
      refine v_goto (tgt := 68) dX1_isNumber_64 (by decide) ?_
      refine v_zreturn rfl (Or.inr rfl) dX1_isNumber_68 ⟨by decide, by decide⟩ ?_
      exact ⟨_, rfl, h⟩
noncomputable def F_X1_isNumber_b46 (M : bM) : Option (Int × bM) :=
  F_X1_isNumber_b47 0 M
theorem t_X1_isNumber_b46 {l : Launch} {E : bE} {Q : (Int × bM) → Prop} {M : bM} (h : b_wp (F_X1_isNumber_b46 M) (Q)) : V l E xX1_isNumber (0, 0) 46 [(0, bR 4)] [] M (b_pI Q) := by
  unfold F_X1_isNumber_b46 at h
  refine v_iconst ⟨by decide, by decide⟩ dX1_isNumber_46 ?_
  exact t_X1_isNumber_b47 h
noncomputable def F_X1_isNumber (v1 : Int) (v2 : Int) (M : bM) : Option (Int × bM) :=
  if (M 1 2) = 2 then (b_bind (F_X10_number M) (fun x2 => if x2 < v1 then (F_X1_isNumber_b46 M) else (b_bind (F_X10_number M) (fun x8 => if v2 < x8 then (F_X1_isNumber_b46 M) else (F_X1_isNumber_b47 1 M))))) else (b_bind (F_X10_wrong 1 M) (fun t => b_two t (fun x10 M11 => b_g (x10 = 0 ∨ x10 = 1) (some (x10, M11)))))
theorem t_X1_isNumber {l : Launch} {E : bE} {Q : (Int × bM) → Prop} {v1 : Int} {v2 : Int} {M : bM} (h : b_wp (F_X1_isNumber v1 v2 M) (Q)) : V l E xX1_isNumber (0, 0) 0 [(0, bR 4), (1, bI v1), (2, bI v2)] [] M (b_pI Q) := by
  unfold F_X1_isNumber at h
  refine v_aload_n (f := 0) 0 rfl dX1_isNumber_0 ?_
  refine v_getR (kf := 1) (kz := 1) rfl kd_4 rfl ⟨by decide, by decide⟩ rfl wf_1_27 dX1_isNumber_1 ?_
  refine v_getI (kf := 2) (kz := 2) rfl kd_1 rfl ⟨by decide, by decide⟩ rfl wf_1_86 dX1_isNumber_4 ?_
  refine v_iconst ⟨by decide, by decide⟩ dX1_isNumber_7 ?_
  refine v_icmp_eq (tgt := 20) dX1_isNumber_8 (by decide) (fun c1 => ?_) (fun c1 => ?_)
  · replace h := b_wp_t c1 h
    refine v_aload_n (f := 0) 0 rfl dX1_isNumber_20 ?_
    refine v_getR (kf := 1) (kz := 1) rfl kd_4 rfl ⟨by decide, by decide⟩ rfl wf_1_27 dX1_isNumber_21 ?_
    refine v_cVIp (nA := 0) (As := []) (ix := 125) (cf_X10_number (b_wp_b h)) rfl kd_1 rfl rfl wc_X10_number wm_1_125 wi_X10_number ws_X10_number wn_10 ⟨by decide, by decide, by decide⟩ rfl ⟨by decide, by decide⟩ ⟨by decide, by decide⟩ (Nat.le_of_ble_eq_true rfl) dX1_isNumber_24 (fun x2 h => ?_)
    refine v_iload_n (f := 1) 1 rfl dX1_isNumber_27 ?_
    refine v_icmp_lt (tgt := 46) dX1_isNumber_28 (by decide) (fun c3 => ?_) (fun c3 => ?_)
    · replace h := b_wp_t c3 h
      refine v_sub (ls2 := [(0, bR _)]) [0] rfl ?_
      exact t_X1_isNumber_b46 h
    · replace h := b_wp_f c3 h
      refine v_aload_n (f := 0) 0 rfl dX1_isNumber_31 ?_
      refine v_getR (kf := 1) (kz := 1) rfl kd_4 rfl ⟨by decide, by decide⟩ rfl wf_1_27 dX1_isNumber_32 ?_
      refine v_cVIp (nA := 0) (As := []) (ix := 125) (cf_X10_number (b_wp_b h)) rfl kd_1 rfl rfl wc_X10_number wm_1_125 wi_X10_number ws_X10_number wn_10 ⟨by decide, by decide, by decide⟩ rfl ⟨by decide, by decide⟩ ⟨by decide, by decide⟩ (Nat.le_of_ble_eq_true rfl) dX1_isNumber_35 (fun x8 h => ?_)
      refine v_iload_n (f := 2) 2 rfl dX1_isNumber_38 ?_
      refine v_icmp_gt (tgt := 46) dX1_isNumber_39 (by decide) (fun c9 => ?_) (fun c9 => ?_)
      · replace h := b_wp_t c9 h
        refine v_sub (ls2 := [(0, bR _)]) [0] rfl ?_
        exact t_X1_isNumber_b46 h
      · replace h := b_wp_f c9 h
        refine v_iconst ⟨by decide, by decide⟩ dX1_isNumber_42 ?_
        refine v_goto (tgt := 47) dX1_isNumber_43 (by decide) ?_
        refine v_sub (ls2 := [(0, bR _)]) [0] rfl ?_
        exact t_X1_isNumber_b47 h
  · replace h := b_wp_f c1 h
    refine v_aload_n (f := 0) 0 rfl dX1_isNumber_11 ?_
    refine v_getR (kf := 1) (kz := 1) rfl kd_4 rfl ⟨by decide, by decide⟩ rfl wf_1_27 dX1_isNumber_12 ?_
    refine v_iconst ⟨by decide, by decide⟩ dX1_isNumber_15 ?_
    refine v_cVI (nA := 1) (As := [bI _]) (ix := 105) (cf_X10_wrong (b_wp_b h)) rfl kd_1 rfl rfl wc_X10_wrong wm_1_105 wi_X10_wrong ws_X10_wrong wn_10 ⟨by decide, by decide, by decide⟩ rfl ⟨by decide, by decide⟩ ⟨by decide, by decide⟩ (Nat.le_of_ble_eq_true rfl) dX1_isNumber_16 (fun x10 M11 h => ?_)
    replace h := b_wp_two h
    obtain ⟨g12, h⟩ := b_wp_g h
    refine v_zreturn rfl g12 dX1_isNumber_19 ⟨by decide, by decide⟩ ?_
    exact ⟨_, rfl, h⟩
theorem cf_X1_isNumber {l : Launch} {E : bE} {M : bM} {v1 : Int} {v2 : Int} {Q : (Int × bM) → Prop} (h : b_wp (F_X1_isNumber v1 v2 M) Q) : b_C l E xX1_isNumber yX1_isNumber [bR 4, bI v1, bI v2] M (b_pI Q) := b_met (by decide) ⟨rfl, rfl⟩ (Nat.le_of_ble_eq_true rfl) (fun _ _ => t_X1_isNumber h)
abbrev xX0_tell : bX := ("BurntHall$Act", prog_2_method_4_code, 3, (Option.none : Option Jvm.ClassFile.FieldType), b_rm 1 0 0, 0, "tell")
abbrev yX0_tell : MethodName := ⟨"BurntHall$Act", "tell", "(II)V"⟩
theorem dX0_tell_0 : decode prog_2_method_4_code 0 = .ok (.iload_n 1, 1) := by decide +kernel
theorem dX0_tell_1 : decode prog_2_method_4_code 1 = .ok (.ifCond .lt 16, 3) := by decide +kernel
theorem dX0_tell_4 : decode prog_2_method_4_code 4 = .ok (.iload_n 1, 1) := by decide +kernel
theorem dX0_tell_5 : decode prog_2_method_4_code 5 = .ok (.bipush 10, 2) := by decide +kernel
theorem dX0_tell_7 : decode prog_2_method_4_code 7 = .ok (.if_icmp .ge 10, 3) := by decide +kernel
theorem dX0_tell_10 : decode prog_2_method_4_code 10 = .ok (.aload_n 0, 1) := by decide +kernel
theorem dX0_tell_11 : decode prog_2_method_4_code 11 = .ok (.getfield 9, 3) := by decide +kernel
theorem dX0_tell_14 : decode prog_2_method_4_code 14 = .ok (.iload_n 1, 1) := by decide +kernel
theorem dX0_tell_15 : decode prog_2_method_4_code 15 = .ok (.iload_n 2, 1) := by decide +kernel
theorem dX0_tell_16 : decode prog_2_method_4_code 16 = .ok (.iastore, 1) := by decide +kernel
theorem dX0_tell_17 : decode prog_2_method_4_code 17 = .ok (.return_, 1) := by decide +kernel
noncomputable def F_X0_tell_a (v0 : Nat) (v1 : Int) (v2 : Int) (M : bM) : Option (bM) :=
  if v1 < 0 then (some M) else (if 10 ≤ v1 then (some M) else (b_g ((12 ≤ v0 ∧ v0 < 22) ∧ (0 ≤ v1 ∧ v1 < 10)) (b_let (b_up M (v0 + 10) v1 v2) (fun M5 => some M5))))
theorem t_X0_tell_a {l : Launch} {E : bE} {Q : bM → Prop} {v0 : Nat} {v1 : Int} {v2 : Int} {M : bM} (h : b_wp (F_X0_tell_a v0 v1 v2 M) (Q)) : V l E xX0_tell (0, 0) 0 [(0, bR v0), (1, bI v1), (2, bI v2)] [] M (b_pV Q) := by
  unfold F_X0_tell_a at h
  refine v_iload_n (f := 1) 1 rfl dX0_tell_0 ?_
  refine v_if_lt (tgt := 17) dX0_tell_1 (by decide) (fun c1 => ?_) (fun c1 => ?_)
  · replace h := b_wp_t c1 h
    refine v_return rfl dX0_tell_17 ⟨by decide, by decide⟩ ?_
    exact ⟨rfl, h⟩
  · replace h := b_wp_f c1 h
    refine v_iload_n (f := 1) 1 rfl dX0_tell_4 ?_
    refine v_bipush ⟨by decide, by decide⟩ (by decide) dX0_tell_5 ?_
    refine v_icmp_ge (tgt := 17) dX0_tell_7 (by decide) (fun c2 => ?_) (fun c2 => ?_)
    · replace h := b_wp_t c2 h
      refine v_return rfl dX0_tell_17 ⟨by decide, by decide⟩ ?_
      exact ⟨rfl, h⟩
    · replace h := b_wp_f c2 h
      obtain ⟨⟨g3, g4⟩, h⟩ := b_wp_g h
      refine v_aload_n (f := 0) 0 rfl dX0_tell_10 ?_
      refine v_getO (kf := 2) (kz := 2) rfl (kd_act0 g3) rfl ⟨by decide, by decide⟩ rfl wf_0_9 dX0_tell_11 ?_
      refine v_iload_n (f := 1) 1 rfl dX0_tell_14 ?_
      refine v_iload_n (f := 2) 2 rfl dX0_tell_15 ?_
      refine v_iastore (kd_act10 g3) g4 (by decide) dX0_tell_16 ?_
      replace h := b_wp_l h
      refine v_return rfl dX0_tell_17 ⟨by decide, by decide⟩ ?_
      exact ⟨rfl, h⟩
theorem cf_X0_tell_a {l : Launch} {E : bE} {M : bM} {v0 : Nat} {v1 : Int} {v2 : Int} {Q : bM → Prop} (h : b_wp (F_X0_tell_a v0 v1 v2 M) Q) : b_C l E xX0_tell yX0_tell [bR v0, bI v1, bI v2] M (b_pV Q) := b_met (by decide) ⟨rfl, rfl⟩ (Nat.le_of_ble_eq_true rfl) (fun _ _ => t_X0_tell_a h)
abbrev xX1_readRule : bX := ("BurntHall$Acts", prog_3_method_7_code, 2, (Option.some Jvm.ClassFile.FieldType.boolean), b_rm 3 0 0, 0, "readRule")
abbrev yX1_readRule : MethodName := ⟨"BurntHall$Acts", "readRule", "(I)Z"⟩
theorem dX1_readRule_0 : decode prog_3_method_7_code 0 = .ok (.iload_n 1, 1) := by decide +kernel
theorem dX1_readRule_1 : decode prog_3_method_7_code 1 = .ok (.iconst (-1), 1) := by decide +kernel
theorem dX1_readRule_2 : decode prog_3_method_7_code 2 = .ok (.if_icmp .ne 12, 3) := by decide +kernel
theorem dX1_readRule_5 : decode prog_3_method_7_code 5 = .ok (.aload_n 0, 1) := by decide +kernel
theorem dX1_readRule_6 : decode prog_3_method_7_code 6 = .ok (.getfield 27, 3) := by decide +kernel
theorem dX1_readRule_9 : decode prog_3_method_7_code 9 = .ok (.iconst 1, 1) := by decide +kernel
theorem dX1_readRule_10 : decode prog_3_method_7_code 10 = .ok (.invokevirtual 105, 3) := by decide +kernel
theorem dX1_readRule_13 : decode prog_3_method_7_code 13 = .ok (.ireturn, 1) := by decide +kernel
theorem dX1_readRule_14 : decode prog_3_method_7_code 14 = .ok (.aload_n 0, 1) := by decide +kernel
theorem dX1_readRule_15 : decode prog_3_method_7_code 15 = .ok (.getfield 83, 3) := by decide +kernel
theorem dX1_readRule_18 : decode prog_3_method_7_code 18 = .ok (.iload_n 1, 1) := by decide +kernel
theorem dX1_readRule_19 : decode prog_3_method_7_code 19 = .ok (.ishr, 1) := by decide +kernel
theorem dX1_readRule_20 : decode prog_3_method_7_code 20 = .ok (.iconst 1, 1) := by decide +kernel
theorem dX1_readRule_21 : decode prog_3_method_7_code 21 = .ok (.iand, 1) := by decide +kernel
theorem dX1_readRule_22 : decode prog_3_method_7_code 22 = .ok (.ifCond .eq 12, 3) := by decide +kernel
theorem dX1_readRule_25 : decode prog_3_method_7_code 25 = .ok (.aload_n 0, 1) := by decide +kernel
theorem dX1_readRule_26 : decode prog_3_method_7_code 26 = .ok (.getfield 27, 3) := by decide +kernel
theorem dX1_readRule_29 : decode prog_3_method_7_code 29 = .ok (.iconst 3, 1) := by decide +kernel
theorem dX1_readRule_30 : decode prog_3_method_7_code 30 = .ok (.invokevirtual 105, 3) := by decide +kernel
theorem dX1_readRule_33 : decode prog_3_method_7_code 33 = .ok (.ireturn, 1) := by decide +kernel
theorem dX1_readRule_34 : decode prog_3_method_7_code 34 = .ok (.aload_n 0, 1) := by decide +kernel
theorem dX1_readRule_35 : decode prog_3_method_7_code 35 = .ok (.dup, 1) := by decide +kernel
theorem dX1_readRule_36 : decode prog_3_method_7_code 36 = .ok (.getfield 83, 3) := by decide +kernel
theorem dX1_readRule_39 : decode prog_3_method_7_code 39 = .ok (.iconst 1, 1) := by decide +kernel
theorem dX1_readRule_40 : decode prog_3_method_7_code 40 = .ok (.iload_n 1, 1) := by decide +kernel
theorem dX1_readRule_41 : decode prog_3_method_7_code 41 = .ok (.ishl, 1) := by decide +kernel
theorem dX1_readRule_42 : decode prog_3_method_7_code 42 = .ok (.ior, 1) := by decide +kernel
theorem dX1_readRule_43 : decode prog_3_method_7_code 43 = .ok (.putfield 83, 3) := by decide +kernel
theorem dX1_readRule_46 : decode prog_3_method_7_code 46 = .ok (.aload_n 0, 1) := by decide +kernel
theorem dX1_readRule_47 : decode prog_3_method_7_code 47 = .ok (.getfield 27, 3) := by decide +kernel
theorem dX1_readRule_50 : decode prog_3_method_7_code 50 = .ok (.invokevirtual 108, 3) := by decide +kernel
theorem dX1_readRule_53 : decode prog_3_method_7_code 53 = .ok (.iload_n 1, 1) := by decide +kernel
theorem dX1_readRule_54 : decode prog_3_method_7_code 54 = .ok (.bipush 8, 2) := by decide +kernel
theorem dX1_readRule_56 : decode prog_3_method_7_code 56 = .ok (.if_icmp .ne 14, 3) := by decide +kernel
theorem dX1_readRule_59 : decode prog_3_method_7_code 59 = .ok (.aload_n 0, 1) := by decide +kernel
theorem dX1_readRule_60 : decode prog_3_method_7_code 60 = .ok (.getfield 51, 3) := by decide +kernel
theorem dX1_readRule_63 : decode prog_3_method_7_code 63 = .ok (.iload_n 1, 1) := by decide +kernel
theorem dX1_readRule_64 : decode prog_3_method_7_code 64 = .ok (.iconst 1, 1) := by decide +kernel
theorem dX1_readRule_65 : decode prog_3_method_7_code 65 = .ok (.invokevirtual 111, 3) := by decide +kernel
theorem dX1_readRule_68 : decode prog_3_method_7_code 68 = .ok (.iconst 1, 1) := by decide +kernel
theorem dX1_readRule_69 : decode prog_3_method_7_code 69 = .ok (.ireturn, 1) := by decide +kernel
theorem dX1_readRule_70 : decode prog_3_method_7_code 70 = .ok (.aload_n 0, 1) := by decide +kernel
theorem dX1_readRule_71 : decode prog_3_method_7_code 71 = .ok (.getstatic 115, 3) := by decide +kernel
theorem dX1_readRule_74 : decode prog_3_method_7_code 74 = .ok (.iload_n 1, 1) := by decide +kernel
theorem dX1_readRule_75 : decode prog_3_method_7_code 75 = .ok (.iaload, 1) := by decide +kernel
theorem dX1_readRule_76 : decode prog_3_method_7_code 76 = .ok (.getstatic 118, 3) := by decide +kernel
theorem dX1_readRule_79 : decode prog_3_method_7_code 79 = .ok (.iload_n 1, 1) := by decide +kernel
theorem dX1_readRule_80 : decode prog_3_method_7_code 80 = .ok (.iaload, 1) := by decide +kernel
theorem dX1_readRule_81 : decode prog_3_method_7_code 81 = .ok (.invokevirtual 121, 3) := by decide +kernel
theorem dX1_readRule_84 : decode prog_3_method_7_code 84 = .ok (.ifCond .ne 5, 3) := by decide +kernel
theorem dX1_readRule_87 : decode prog_3_method_7_code 87 = .ok (.iconst 0, 1) := by decide +kernel
theorem dX1_readRule_88 : decode prog_3_method_7_code 88 = .ok (.ireturn, 1) := by decide +kernel
theorem dX1_readRule_89 : decode prog_3_method_7_code 89 = .ok (.aload_n 0, 1) := by decide +kernel
theorem dX1_readRule_90 : decode prog_3_method_7_code 90 = .ok (.getfield 51, 3) := by decide +kernel
theorem dX1_readRule_93 : decode prog_3_method_7_code 93 = .ok (.iload_n 1, 1) := by decide +kernel
theorem dX1_readRule_94 : decode prog_3_method_7_code 94 = .ok (.aload_n 0, 1) := by decide +kernel
theorem dX1_readRule_95 : decode prog_3_method_7_code 95 = .ok (.getfield 27, 3) := by decide +kernel
theorem dX1_readRule_98 : decode prog_3_method_7_code 98 = .ok (.invokevirtual 125, 3) := by decide +kernel
theorem dX1_readRule_101 : decode prog_3_method_7_code 101 = .ok (.invokevirtual 111, 3) := by decide +kernel
theorem dX1_readRule_104 : decode prog_3_method_7_code 104 = .ok (.aload_n 0, 1) := by decide +kernel
theorem dX1_readRule_105 : decode prog_3_method_7_code 105 = .ok (.getfield 27, 3) := by decide +kernel
theorem dX1_readRule_108 : decode prog_3_method_7_code 108 = .ok (.invokevirtual 108, 3) := by decide +kernel
theorem dX1_readRule_111 : decode prog_3_method_7_code 111 = .ok (.iconst 1, 1) := by decide +kernel
theorem dX1_readRule_112 : decode prog_3_method_7_code 112 = .ok (.ireturn, 1) := by decide +kernel
noncomputable def F_X1_readRule (v1 : Int) (M : bM) : Option (Int × bM) :=
  if v1 = (-1) then (b_bind (F_X10_wrong 1 M) (fun t => b_two t (fun x19 M20 => b_g (x19 = 0 ∨ x19 = 1) (some (x19, M20))))) else (if (i_and (i_shr (M 4 10) v1) 1) = 0 then (b_let (b_up M 4 10 (i_or (M 4 10) (i_shl 1 v1))) (fun M3 => b_bind (F_X10_step M3) (fun M4 => if v1 = 8 then (b_g (12 ≤ (M4 4 8).toNat ∧ (M4 4 8).toNat < 22) (b_bind (F_X0_tell_a ((M4 4 8).toNat) v1 1 M4) (fun M15 => some (1, M15)))) else (b_g (0 ≤ v1 ∧ v1 < 10) (b_bind (F_X1_isNumber (s_u1 v1) (s_u2 v1) M4) (fun t => b_two t (fun x7 M8 => if x7 = 0 then (some (0, M8)) else (b_bind (F_X10_number M8) (fun x10 => b_g (12 ≤ (M8 4 8).toNat ∧ (M8 4 8).toNat < 22) (b_bind (F_X0_tell_a ((M8 4 8).toNat) v1 x10 M8) (fun M12 => b_bind (F_X10_step M12) (fun M13 => some (1, M13))))))))))))) else (b_bind (F_X10_wrong 3 M) (fun t => b_two t (fun x16 M17 => b_g (x16 = 0 ∨ x16 = 1) (some (x16, M17))))))
theorem t_X1_readRule {l : Launch} {E : bE} {Q : (Int × bM) → Prop} {v1 : Int} {M : bM} (hfg : b_fg E) (h : b_wp (F_X1_readRule v1 M) (Q)) : V l E xX1_readRule (0, 0) 0 [(0, bR 4), (1, bI v1)] [] M (b_pI Q) := by
  unfold F_X1_readRule at h
  refine v_iload_n (f := 1) 1 rfl dX1_readRule_0 ?_
  refine v_iconst ⟨by decide, by decide⟩ dX1_readRule_1 ?_
  refine v_icmp_ne (tgt := 14) dX1_readRule_2 (by decide) (fun c1 => ?_) (fun c1 => ?_)
  · replace h := b_wp_f c1 h
    refine v_aload_n (f := 0) 0 rfl dX1_readRule_14 ?_
    refine v_getI (kf := 10) (kz := 10) rfl kd_4 rfl ⟨by decide, by decide⟩ rfl wf_1_83 dX1_readRule_15 ?_
    refine v_iload_n (f := 1) 1 rfl dX1_readRule_18 ?_
    refine v_ishr (v := i_shr _ _) rfl dX1_readRule_19 ?_
    refine v_iconst ⟨by decide, by decide⟩ dX1_readRule_20 ?_
    refine v_iand (v := i_and _ _) rfl dX1_readRule_21 ?_
    refine v_if_eq (tgt := 34) dX1_readRule_22 (by decide) (fun c2 => ?_) (fun c2 => ?_)
    · replace h := b_wp_t c2 h
      refine v_aload_n (f := 0) 0 rfl dX1_readRule_34 ?_
      refine v_dup rfl dX1_readRule_35 ?_
      refine v_getI (kf := 10) (kz := 10) rfl kd_4 rfl ⟨by decide, by decide⟩ rfl wf_1_83 dX1_readRule_36 ?_
      refine v_iconst ⟨by decide, by decide⟩ dX1_readRule_39 ?_
      refine v_iload_n (f := 1) 1 rfl dX1_readRule_40 ?_
      refine v_ishl (v := i_shl _ _) rfl dX1_readRule_41 ?_
      refine v_ior (v := i_or _ _) rfl dX1_readRule_42 ?_
      refine v_putI (kf := 10) (kz := 10) rfl kd_4 rfl ⟨by decide, by decide⟩ rfl wf_1_83 rfl rfl dX1_readRule_43 ?_
      replace h := b_wp_l h
      refine v_aload_n (f := 0) 0 rfl dX1_readRule_46 ?_
      refine v_getR (kf := 1) (kz := 1) rfl kd_4 rfl ⟨by decide, by decide⟩ rfl wf_1_27 dX1_readRule_47 ?_
      refine v_cVV (nA := 0) (As := []) (ix := 108) (cf_X10_step (b_wp_b h)) rfl kd_1 rfl rfl wc_X10_step wm_1_108 wi_X10_step ws_X10_step wn_10 ⟨by decide, by decide, by decide⟩ rfl ⟨by decide, by decide⟩ ⟨by decide, by decide⟩ (Nat.le_of_ble_eq_true rfl) dX1_readRule_50 (fun M4 h => ?_)
      refine v_iload_n (f := 1) 1 rfl dX1_readRule_53 ?_
      refine v_bipush ⟨by decide, by decide⟩ (by decide) dX1_readRule_54 ?_
      refine v_icmp_ne (tgt := 70) dX1_readRule_56 (by decide) (fun c5 => ?_) (fun c5 => ?_)
      · replace h := b_wp_f c5 h
        obtain ⟨g6, h⟩ := b_wp_g h
        refine v_aload_n (f := 0) 0 rfl dX1_readRule_70 ?_
        refine f_getsR (c2 := 2021) (by decide) (hfg.2.2.2.2.2.2.2.2.2.2.2.2.2.1) wf_1_115 dX1_readRule_71 ?_
        refine v_iload_n (f := 1) 1 rfl dX1_readRule_74 ?_
        refine f_iaload (by decide) (by decide) g6 (s_u1_r _) (hfg.2.2.2.2.2.2.2.2.2.2.2.2.2.2.1) dX1_readRule_75 ?_
        refine f_getsR (c2 := 2022) (by decide) (hfg.2.2.2.2.2.2.2.2.2.2.2.2.2.2.2.1) wf_1_118 dX1_readRule_76 ?_
        refine v_iload_n (f := 1) 1 rfl dX1_readRule_79 ?_
        refine f_iaload (by decide) (by decide) g6 (s_u2_r _) (hfg.2.2.2.2.2.2.2.2.2.2.2.2.2.2.2.2.1) dX1_readRule_80 ?_
        refine v_cVI (nA := 2) (As := [bI _, bI _]) (ix := 121) (cf_X1_isNumber (b_wp_b h)) rfl kd_4 rfl rfl wc_X1_isNumber wm_1_121 wi_X1_isNumber ws_X1_isNumber wn_1 ⟨by decide, by decide, by decide⟩ rfl ⟨by decide, by decide⟩ ⟨by decide, by decide⟩ (Nat.le_of_ble_eq_true rfl) dX1_readRule_81 (fun x7 M8 h => ?_)
        replace h := b_wp_two h
        refine v_if_ne (tgt := 89) dX1_readRule_84 (by decide) (fun c9 => ?_) (fun c9 => ?_)
        · replace h := b_wp_f c9 h
          refine v_aload_n (f := 0) 0 rfl dX1_readRule_89 ?_
          refine v_getD (kf := 8) (kz := 8) rfl kd_4 rfl ⟨by decide, by decide⟩ rfl wf_1_51 dX1_readRule_90 ?_
          refine v_iload_n (f := 1) 1 rfl dX1_readRule_93 ?_
          refine v_aload_n (f := 0) 0 rfl dX1_readRule_94 ?_
          refine v_getR (kf := 1) (kz := 1) rfl kd_4 rfl ⟨by decide, by decide⟩ rfl wf_1_27 dX1_readRule_95 ?_
          refine v_cVIp (nA := 0) (As := []) (ix := 125) (cf_X10_number (b_wp_b h)) rfl kd_1 rfl rfl wc_X10_number wm_1_125 wi_X10_number ws_X10_number wn_10 ⟨by decide, by decide, by decide⟩ rfl ⟨by decide, by decide⟩ ⟨by decide, by decide⟩ (Nat.le_of_ble_eq_true rfl) dX1_readRule_98 (fun x10 h => ?_)
          obtain ⟨g11, h⟩ := b_wp_g h
          refine v_cVV (nA := 2) (As := [bI _, bI _]) (ix := 111) (cf_X0_tell_a (b_wp_b h)) rfl (kd_act0 g11) rfl rfl wc_X0_tell wm_1_111 wi_X0_tell ws_X0_tell wn_0 ⟨by decide, by decide, by decide⟩ rfl ⟨by decide, by decide⟩ ⟨by decide, by decide⟩ (Nat.le_of_ble_eq_true rfl) dX1_readRule_101 (fun M12 h => ?_)
          refine v_aload_n (f := 0) 0 rfl dX1_readRule_104 ?_
          refine v_getR (kf := 1) (kz := 1) rfl kd_4 rfl ⟨by decide, by decide⟩ rfl wf_1_27 dX1_readRule_105 ?_
          refine v_cVV (nA := 0) (As := []) (ix := 108) (cf_X10_step (b_wp_b h)) rfl kd_1 rfl rfl wc_X10_step wm_1_108 wi_X10_step ws_X10_step wn_10 ⟨by decide, by decide, by decide⟩ rfl ⟨by decide, by decide⟩ ⟨by decide, by decide⟩ (Nat.le_of_ble_eq_true rfl) dX1_readRule_108 (fun M13 h => ?_)
          refine v_iconst ⟨by decide, by decide⟩ dX1_readRule_111 ?_
          refine v_zreturn rfl (Or.inr rfl) dX1_readRule_112 ⟨by decide, by decide⟩ ?_
          exact ⟨_, rfl, h⟩
        · replace h := b_wp_t c9 h
          refine v_iconst ⟨by decide, by decide⟩ dX1_readRule_87 ?_
          refine v_zreturn rfl (Or.inl rfl) dX1_readRule_88 ⟨by decide, by decide⟩ ?_
          exact ⟨_, rfl, h⟩
      · replace h := b_wp_t c5 h
        obtain ⟨g14, h⟩ := b_wp_g h
        refine v_aload_n (f := 0) 0 rfl dX1_readRule_59 ?_
        refine v_getD (kf := 8) (kz := 8) rfl kd_4 rfl ⟨by decide, by decide⟩ rfl wf_1_51 dX1_readRule_60 ?_
        refine v_iload_n (f := 1) 1 rfl dX1_readRule_63 ?_
        refine v_iconst ⟨by decide, by decide⟩ dX1_readRule_64 ?_
        refine v_cVV (nA := 2) (As := [bI _, bI _]) (ix := 111) (cf_X0_tell_a (b_wp_b h)) rfl (kd_act0 g14) rfl rfl wc_X0_tell wm_1_111 wi_X0_tell ws_X0_tell wn_0 ⟨by decide, by decide, by decide⟩ rfl ⟨by decide, by decide⟩ ⟨by decide, by decide⟩ (Nat.le_of_ble_eq_true rfl) dX1_readRule_65 (fun M15 h => ?_)
        refine v_iconst ⟨by decide, by decide⟩ dX1_readRule_68 ?_
        refine v_zreturn rfl (Or.inr rfl) dX1_readRule_69 ⟨by decide, by decide⟩ ?_
        exact ⟨_, rfl, h⟩
    · replace h := b_wp_f c2 h
      refine v_aload_n (f := 0) 0 rfl dX1_readRule_25 ?_
      refine v_getR (kf := 1) (kz := 1) rfl kd_4 rfl ⟨by decide, by decide⟩ rfl wf_1_27 dX1_readRule_26 ?_
      refine v_iconst ⟨by decide, by decide⟩ dX1_readRule_29 ?_
      refine v_cVI (nA := 1) (As := [bI _]) (ix := 105) (cf_X10_wrong (b_wp_b h)) rfl kd_1 rfl rfl wc_X10_wrong wm_1_105 wi_X10_wrong ws_X10_wrong wn_10 ⟨by decide, by decide, by decide⟩ rfl ⟨by decide, by decide⟩ ⟨by decide, by decide⟩ (Nat.le_of_ble_eq_true rfl) dX1_readRule_30 (fun x16 M17 h => ?_)
      replace h := b_wp_two h
      obtain ⟨g18, h⟩ := b_wp_g h
      refine v_zreturn rfl g18 dX1_readRule_33 ⟨by decide, by decide⟩ ?_
      exact ⟨_, rfl, h⟩
  · replace h := b_wp_t c1 h
    refine v_aload_n (f := 0) 0 rfl dX1_readRule_5 ?_
    refine v_getR (kf := 1) (kz := 1) rfl kd_4 rfl ⟨by decide, by decide⟩ rfl wf_1_27 dX1_readRule_6 ?_
    refine v_iconst ⟨by decide, by decide⟩ dX1_readRule_9 ?_
    refine v_cVI (nA := 1) (As := [bI _]) (ix := 105) (cf_X10_wrong (b_wp_b h)) rfl kd_1 rfl rfl wc_X10_wrong wm_1_105 wi_X10_wrong ws_X10_wrong wn_10 ⟨by decide, by decide, by decide⟩ rfl ⟨by decide, by decide⟩ ⟨by decide, by decide⟩ (Nat.le_of_ble_eq_true rfl) dX1_readRule_10 (fun x19 M20 h => ?_)
    replace h := b_wp_two h
    obtain ⟨g21, h⟩ := b_wp_g h
    refine v_zreturn rfl g21 dX1_readRule_13 ⟨by decide, by decide⟩ ?_
    exact ⟨_, rfl, h⟩
theorem cf_X1_readRule {l : Launch} {E : bE} {M : bM} {v1 : Int} (hfg : b_fg E) {Q : (Int × bM) → Prop} (h : b_wp (F_X1_readRule v1 M) Q) : b_C l E xX1_readRule yX1_readRule [bR 4, bI v1] M (b_pI Q) := b_met (by decide) ⟨rfl, rfl⟩ (Nat.le_of_ble_eq_true rfl) (fun _ _ => t_X1_readRule hfg h)
abbrev A_X1_placeOf_105_2 (l : Launch) (E : bE) (Q : Int → Prop) (M : bM) : (Int) → Prop := (fun t : Int => V l E xX1_placeOf (0, 0) 2 [(0, bR 4), (1, bR 105), (2, bI t)] [] M (b_pIp M Q))
abbrev X_X1_placeOf_105_2 (l : Launch) (E : bE) (Q : Int → Prop) (M : bM) : ((Unit) ⊕ Int) → Prop := (Sum.elim (fun t : Unit => V l E xX1_placeOf (0, 0) 41 [] [] M (b_pIp M Q)) Q)
noncomputable def F_X1_placeOf_105_s2 (v2 : Int) (M : bM) : Option ((Int) ⊕ ((Unit) ⊕ Int)) :=
  if 7 ≤ v2 then (some (.inr (.inl ()))) else (if (M 1 2) = 1 then (b_g (0 ≤ v2 ∧ v2 < 7) (if (j_cmp (M 1 4) (M 105 v2)) = 0 then (some (.inr (.inr v2))) else (b_g (b_i32 (v2 + 1)) (some (.inl ((v2 + 1))))))) else (b_g (b_i32 (v2 + 1)) (some (.inl ((v2 + 1))))))
theorem t_X1_placeOf_105_s2 {l : Launch} {E : bE} {Q : Int → Prop} {v2 : Int} {M : bM} (h : b_wp (F_X1_placeOf_105_s2 v2 M) (Sum.elim (A_X1_placeOf_105_2 l E Q M) (X_X1_placeOf_105_2 l E Q M))) : V l E xX1_placeOf (0, 0) 2 [(0, bR 4), (1, bR 105), (2, bI v2)] [] M (b_pIp M Q) := by
  unfold F_X1_placeOf_105_s2 at h
  refine v_iload_n (f := 2) 2 rfl dX1_placeOf_2 ?_
  refine v_aload_n (f := 1) 1 rfl dX1_placeOf_3 ?_
  refine v_alen4 kd_105 (by decide) dX1_placeOf_4 ?_
  refine v_icmp_ge (tgt := 41) dX1_placeOf_5 (by decide) (fun c1 => ?_) (fun c1 => ?_)
  · replace h := b_wp_t c1 h
    refine v_sub (ls2 := []) [] rfl ?_
    exact h
  · replace h := b_wp_f c1 h
    refine v_aload_n (f := 0) 0 rfl dX1_placeOf_8 ?_
    refine v_getR (kf := 1) (kz := 1) rfl kd_4 rfl ⟨by decide, by decide⟩ rfl wf_1_27 dX1_placeOf_9 ?_
    refine v_getI (kf := 2) (kz := 2) rfl kd_1 rfl ⟨by decide, by decide⟩ rfl wf_1_86 dX1_placeOf_12 ?_
    refine v_iconst ⟨by decide, by decide⟩ dX1_placeOf_15 ?_
    refine v_icmp_ne (tgt := 35) dX1_placeOf_16 (by decide) (fun c2 => ?_) (fun c2 => ?_)
    · replace h := b_wp_f c2 h
      obtain ⟨g3, h⟩ := b_wp_g h
      refine v_iincN (ls' := [(2, bI _), (0, bR _), (1, bR _)]) 2 rfl (by decide) g3 dX1_placeOf_35 rfl ?_
      refine v_goto (tgt := 2) dX1_placeOf_38 (by decide) ?_
      refine v_sub (ls2 := [(0, bR _), (1, bR _), (2, bI _)]) [1, 2, 0] rfl ?_
      exact h
    · replace h := b_wp_t c2 h
      obtain ⟨g4, h⟩ := b_wp_g h
      refine v_aload_n (f := 0) 0 rfl dX1_placeOf_19 ?_
      refine v_getR (kf := 1) (kz := 1) rfl kd_4 rfl ⟨by decide, by decide⟩ rfl wf_1_27 dX1_placeOf_20 ?_
      refine v_getJ (kf := 4) (kz := 4) rfl kd_1 rfl ⟨by decide, by decide⟩ rfl wf_1_172 dX1_placeOf_23 ?_
      refine v_aload_n (f := 1) 1 rfl dX1_placeOf_26 ?_
      refine v_iload_n (f := 2) 2 rfl dX1_placeOf_27 ?_
      refine v_laload kd_105 g4 (by decide) dX1_placeOf_28 ?_
      refine v_lcmpN dX1_placeOf_29 ?_
      refine v_if_ne (tgt := 35) dX1_placeOf_30 (by decide) (fun c5 => ?_) (fun c5 => ?_)
      · replace h := b_wp_f c5 h
        obtain ⟨g6, h⟩ := b_wp_g h
        refine v_iincN (ls' := [(2, bI _), (0, bR _), (1, bR _)]) 2 rfl (by decide) g6 dX1_placeOf_35 rfl ?_
        refine v_goto (tgt := 2) dX1_placeOf_38 (by decide) ?_
        refine v_sub (ls2 := [(0, bR _), (1, bR _), (2, bI _)]) [1, 2, 0] rfl ?_
        exact h
      · replace h := b_wp_t c5 h
        refine v_iload_n (f := 2) 2 rfl dX1_placeOf_33 ?_
        refine v_ireturn rfl dX1_placeOf_34 ⟨by decide, by decide⟩ ?_
        exact ⟨_, rfl, rfl, h⟩
theorem l_X1_placeOf_105_2 {l : Launch} {E : bE} {Q : Int → Prop} {M : bM} {s : Int} (h : b_wp (b_loop (fun t => F_X1_placeOf_105_s2 t M) s) (X_X1_placeOf_105_2 l E Q M)) : A_X1_placeOf_105_2 l E Q M s := b_loop_wp (fun t h => t_X1_placeOf_105_s2 h) s h
noncomputable def F_X1_placeOf_105_b41 (M : bM) : Option (Int) :=
  some (-1)
theorem t_X1_placeOf_105_b41 {l : Launch} {E : bE} {Q : Int → Prop} {M : bM} (h : b_wp (F_X1_placeOf_105_b41 M) (Q)) : V l E xX1_placeOf (0, 0) 41 [] [] M (b_pIp M Q) := by
  unfold F_X1_placeOf_105_b41 at h
  refine v_iconst ⟨by decide, by decide⟩ dX1_placeOf_41 ?_
  refine v_ireturn rfl dX1_placeOf_42 ⟨by decide, by decide⟩ ?_
  exact ⟨_, rfl, rfl, h⟩
noncomputable def F_X1_placeOf_105 (M : bM) : Option (Int) :=
  b_bind (b_loop (fun t => F_X1_placeOf_105_s2 t M) (0)) (Sum.elim (fun t => F_X1_placeOf_105_b41 M) some)
theorem t_X1_placeOf_105 {l : Launch} {E : bE} {Q : Int → Prop} {M : bM} (h : b_wp (F_X1_placeOf_105 M) (Q)) : V l E xX1_placeOf (0, 0) 0 [(0, bR 4), (1, bR 105)] [] M (b_pIp M Q) := by
  unfold F_X1_placeOf_105 at h
  refine v_iconst ⟨by decide, by decide⟩ dX1_placeOf_0 ?_
  refine v_istore_n (g := 2) (i := 2) (ls' := [(2, bI _), (0, bR _), (1, bR _)]) rfl (by decide) dX1_placeOf_1 rfl ?_
  refine v_sub (ls2 := [(0, bR _), (1, bR _), (2, bI _)]) [1, 2, 0] rfl ?_
  refine l_X1_placeOf_105_2 (b_wp_m (fun t h => ?_) (b_wp_b h))
  cases t with
  | inr o => exact h
  | inl t =>
    show V l E xX1_placeOf (0, 0) 41 [] [] _ (b_pIp M Q)
    replace h := b_wp_inl h
    exact t_X1_placeOf_105_b41 h
theorem cf_X1_placeOf_105 {l : Launch} {E : bE} {M : bM} {Q : Int → Prop} (h : b_wp (F_X1_placeOf_105 M) Q) : b_C l E xX1_placeOf yX1_placeOf [bR 4, bR 105] M (b_pIp M Q) := b_met (by decide) ⟨rfl, rfl⟩ (Nat.le_of_ble_eq_true rfl) (fun _ _ => t_X1_placeOf_105 h)
abbrev xX0_addProof : bX := ("BurntHall$Act", prog_2_method_5_code, 4, (Option.none : Option Jvm.ClassFile.FieldType), b_rm 1 0 0, 0, "addProof")
abbrev yX0_addProof : MethodName := ⟨"BurntHall$Act", "addProof", "(III)V"⟩
theorem dX0_addProof_0 : decode prog_2_method_5_code 0 = .ok (.aload_n 0, 1) := by decide +kernel
theorem dX0_addProof_1 : decode prog_2_method_5_code 1 = .ok (.getfield 32, 3) := by decide +kernel
theorem dX0_addProof_4 : decode prog_2_method_5_code 4 = .ok (.bipush 24, 2) := by decide +kernel
theorem dX0_addProof_6 : decode prog_2_method_5_code 6 = .ok (.if_icmp .ge 38, 3) := by decide +kernel
theorem dX0_addProof_9 : decode prog_2_method_5_code 9 = .ok (.aload_n 0, 1) := by decide +kernel
theorem dX0_addProof_10 : decode prog_2_method_5_code 10 = .ok (.getfield 13, 3) := by decide +kernel
theorem dX0_addProof_13 : decode prog_2_method_5_code 13 = .ok (.aload_n 0, 1) := by decide +kernel
theorem dX0_addProof_14 : decode prog_2_method_5_code 14 = .ok (.getfield 32, 3) := by decide +kernel
theorem dX0_addProof_17 : decode prog_2_method_5_code 17 = .ok (.iload_n 1, 1) := by decide +kernel
theorem dX0_addProof_18 : decode prog_2_method_5_code 18 = .ok (.bipush 100, 2) := by decide +kernel
theorem dX0_addProof_20 : decode prog_2_method_5_code 20 = .ok (.imul, 1) := by decide +kernel
theorem dX0_addProof_21 : decode prog_2_method_5_code 21 = .ok (.iload_n 2, 1) := by decide +kernel
theorem dX0_addProof_22 : decode prog_2_method_5_code 22 = .ok (.iadd, 1) := by decide +kernel
theorem dX0_addProof_23 : decode prog_2_method_5_code 23 = .ok (.iastore, 1) := by decide +kernel
theorem dX0_addProof_24 : decode prog_2_method_5_code 24 = .ok (.aload_n 0, 1) := by decide +kernel
theorem dX0_addProof_25 : decode prog_2_method_5_code 25 = .ok (.dup, 1) := by decide +kernel
theorem dX0_addProof_26 : decode prog_2_method_5_code 26 = .ok (.getfield 32, 3) := by decide +kernel
theorem dX0_addProof_29 : decode prog_2_method_5_code 29 = .ok (.iconst 1, 1) := by decide +kernel
theorem dX0_addProof_30 : decode prog_2_method_5_code 30 = .ok (.iadd, 1) := by decide +kernel
theorem dX0_addProof_31 : decode prog_2_method_5_code 31 = .ok (.putfield 32, 3) := by decide +kernel
theorem dX0_addProof_34 : decode prog_2_method_5_code 34 = .ok (.aload_n 0, 1) := by decide +kernel
theorem dX0_addProof_35 : decode prog_2_method_5_code 35 = .ok (.getfield 16, 3) := by decide +kernel
theorem dX0_addProof_38 : decode prog_2_method_5_code 38 = .ok (.aload_n 0, 1) := by decide +kernel
theorem dX0_addProof_39 : decode prog_2_method_5_code 39 = .ok (.getfield 32, 3) := by decide +kernel
theorem dX0_addProof_42 : decode prog_2_method_5_code 42 = .ok (.iload_n 3, 1) := by decide +kernel
theorem dX0_addProof_43 : decode prog_2_method_5_code 43 = .ok (.iastore, 1) := by decide +kernel
theorem dX0_addProof_44 : decode prog_2_method_5_code 44 = .ok (.return_, 1) := by decide +kernel
noncomputable def F_X0_addProof_a (v0 : Nat) (v1 : Int) (v2 : Int) (v3 : Int) (M : bM) : Option (bM) :=
  b_g (12 ≤ v0 ∧ v0 < 22) (if 24 ≤ (M v0 1) then (some M) else (b_g ((b_i32 (v1 * 100)) ∧ (b_i32 ((v1 * 100) + v2)) ∧ (0 ≤ (M v0 1) ∧ (M v0 1) < 24)) (b_let (b_up M (v0 + 20) (M v0 1) ((v1 * 100) + v2)) (fun M6 => b_g (b_i32 ((M6 v0 1) + 1)) (b_let (b_up M6 v0 1 ((M6 v0 1) + 1)) (fun M8 => b_g (0 ≤ (M8 v0 1) ∧ (M8 v0 1) < 25) (b_let (b_up M8 (v0 + 40) (M8 v0 1) v3) (fun M10 => some M10))))))))
theorem t_X0_addProof_a {l : Launch} {E : bE} {Q : bM → Prop} {v0 : Nat} {v1 : Int} {v2 : Int} {v3 : Int} {M : bM} (h : b_wp (F_X0_addProof_a v0 v1 v2 v3 M) (Q)) : V l E xX0_addProof (0, 0) 0 [(0, bR v0), (1, bI v1), (2, bI v2), (3, bI v3)] [] M (b_pV Q) := by
  unfold F_X0_addProof_a at h
  obtain ⟨g1, h⟩ := b_wp_g h
  refine v_aload_n (f := 0) 0 rfl dX0_addProof_0 ?_
  refine v_getI (kf := 1) (kz := 1) rfl (kd_act0 g1) rfl ⟨by decide, by decide⟩ rfl wf_0_32 dX0_addProof_1 ?_
  refine v_bipush ⟨by decide, by decide⟩ (by decide) dX0_addProof_4 ?_
  refine v_icmp_ge (tgt := 44) dX0_addProof_6 (by decide) (fun c2 => ?_) (fun c2 => ?_)
  · replace h := b_wp_t c2 h
    refine v_return rfl dX0_addProof_44 ⟨by decide, by decide⟩ ?_
    exact ⟨rfl, h⟩
  · replace h := b_wp_f c2 h
    obtain ⟨⟨g3, g4, g5⟩, h⟩ := b_wp_g h
    refine v_aload_n (f := 0) 0 rfl dX0_addProof_9 ?_
    refine v_getO (kf := 3) (kz := 3) rfl (kd_act0 g1) rfl ⟨by decide, by decide⟩ rfl wf_0_13 dX0_addProof_10 ?_
    refine v_aload_n (f := 0) 0 rfl dX0_addProof_13 ?_
    refine v_getI (kf := 1) (kz := 1) rfl (kd_act0 g1) rfl ⟨by decide, by decide⟩ rfl wf_0_32 dX0_addProof_14 ?_
    refine v_iload_n (f := 1) 1 rfl dX0_addProof_17 ?_
    refine v_bipush ⟨by decide, by decide⟩ (by decide) dX0_addProof_18 ?_
    refine v_imulN g3 dX0_addProof_20 ?_
    refine v_iload_n (f := 2) 2 rfl dX0_addProof_21 ?_
    refine v_iaddN g4 dX0_addProof_22 ?_
    refine v_iastore (kd_act20 g1) g5 (by decide) dX0_addProof_23 ?_
    replace h := b_wp_l h
    obtain ⟨g7, h⟩ := b_wp_g h
    refine v_aload_n (f := 0) 0 rfl dX0_addProof_24 ?_
    refine v_dup rfl dX0_addProof_25 ?_
    refine v_getI (kf := 1) (kz := 1) rfl (kd_act0 g1) rfl ⟨by decide, by decide⟩ rfl wf_0_32 dX0_addProof_26 ?_
    refine v_iconst ⟨by decide, by decide⟩ dX0_addProof_29 ?_
    refine v_iaddN g7 dX0_addProof_30 ?_
    refine v_putI (kf := 1) (kz := 1) rfl (kd_act0 g1) rfl ⟨by decide, by decide⟩ rfl wf_0_32 rfl rfl dX0_addProof_31 ?_
    replace h := b_wp_l h
    obtain ⟨g9, h⟩ := b_wp_g h
    refine v_aload_n (f := 0) 0 rfl dX0_addProof_34 ?_
    refine v_getO (kf := 4) (kz := 4) rfl (kd_act0 g1) rfl ⟨by decide, by decide⟩ rfl wf_0_16 dX0_addProof_35 ?_
    refine v_aload_n (f := 0) 0 rfl dX0_addProof_38 ?_
    refine v_getI (kf := 1) (kz := 1) rfl (kd_act0 g1) rfl ⟨by decide, by decide⟩ rfl wf_0_32 dX0_addProof_39 ?_
    refine v_iload_n (f := 3) 3 rfl dX0_addProof_42 ?_
    refine v_iastore (kd_act40 g1) g9 (by decide) dX0_addProof_43 ?_
    replace h := b_wp_l h
    refine v_return rfl dX0_addProof_44 ⟨by decide, by decide⟩ ?_
    exact ⟨rfl, h⟩
theorem cf_X0_addProof_a {l : Launch} {E : bE} {M : bM} {v0 : Nat} {v1 : Int} {v2 : Int} {v3 : Int} {Q : bM → Prop} (h : b_wp (F_X0_addProof_a v0 v1 v2 v3 M) Q) : b_C l E xX0_addProof yX0_addProof [bR v0, bI v1, bI v2, bI v3] M (b_pV Q) := b_met (by decide) ⟨rfl, rfl⟩ (Nat.le_of_ble_eq_true rfl) (fun _ _ => t_X0_addProof_a h)
abbrev A_X1_placeOf_106_2 (l : Launch) (E : bE) (Q : Int → Prop) (M : bM) : (Int) → Prop := (fun t : Int => V l E xX1_placeOf (0, 0) 2 [(0, bR 4), (1, bR 106), (2, bI t)] [] M (b_pIp M Q))
abbrev X_X1_placeOf_106_2 (l : Launch) (E : bE) (Q : Int → Prop) (M : bM) : ((Unit) ⊕ Int) → Prop := (Sum.elim (fun t : Unit => V l E xX1_placeOf (0, 0) 41 [] [] M (b_pIp M Q)) Q)
noncomputable def F_X1_placeOf_106_s2 (v2 : Int) (M : bM) : Option ((Int) ⊕ ((Unit) ⊕ Int)) :=
  if 7 ≤ v2 then (some (.inr (.inl ()))) else (if (M 1 2) = 1 then (b_g (0 ≤ v2 ∧ v2 < 7) (if (j_cmp (M 1 4) (M 106 v2)) = 0 then (some (.inr (.inr v2))) else (b_g (b_i32 (v2 + 1)) (some (.inl ((v2 + 1))))))) else (b_g (b_i32 (v2 + 1)) (some (.inl ((v2 + 1))))))
theorem t_X1_placeOf_106_s2 {l : Launch} {E : bE} {Q : Int → Prop} {v2 : Int} {M : bM} (h : b_wp (F_X1_placeOf_106_s2 v2 M) (Sum.elim (A_X1_placeOf_106_2 l E Q M) (X_X1_placeOf_106_2 l E Q M))) : V l E xX1_placeOf (0, 0) 2 [(0, bR 4), (1, bR 106), (2, bI v2)] [] M (b_pIp M Q) := by
  unfold F_X1_placeOf_106_s2 at h
  refine v_iload_n (f := 2) 2 rfl dX1_placeOf_2 ?_
  refine v_aload_n (f := 1) 1 rfl dX1_placeOf_3 ?_
  refine v_alen4 kd_106 (by decide) dX1_placeOf_4 ?_
  refine v_icmp_ge (tgt := 41) dX1_placeOf_5 (by decide) (fun c1 => ?_) (fun c1 => ?_)
  · replace h := b_wp_t c1 h
    refine v_sub (ls2 := []) [] rfl ?_
    exact h
  · replace h := b_wp_f c1 h
    refine v_aload_n (f := 0) 0 rfl dX1_placeOf_8 ?_
    refine v_getR (kf := 1) (kz := 1) rfl kd_4 rfl ⟨by decide, by decide⟩ rfl wf_1_27 dX1_placeOf_9 ?_
    refine v_getI (kf := 2) (kz := 2) rfl kd_1 rfl ⟨by decide, by decide⟩ rfl wf_1_86 dX1_placeOf_12 ?_
    refine v_iconst ⟨by decide, by decide⟩ dX1_placeOf_15 ?_
    refine v_icmp_ne (tgt := 35) dX1_placeOf_16 (by decide) (fun c2 => ?_) (fun c2 => ?_)
    · replace h := b_wp_f c2 h
      obtain ⟨g3, h⟩ := b_wp_g h
      refine v_iincN (ls' := [(2, bI _), (0, bR _), (1, bR _)]) 2 rfl (by decide) g3 dX1_placeOf_35 rfl ?_
      refine v_goto (tgt := 2) dX1_placeOf_38 (by decide) ?_
      refine v_sub (ls2 := [(0, bR _), (1, bR _), (2, bI _)]) [1, 2, 0] rfl ?_
      exact h
    · replace h := b_wp_t c2 h
      obtain ⟨g4, h⟩ := b_wp_g h
      refine v_aload_n (f := 0) 0 rfl dX1_placeOf_19 ?_
      refine v_getR (kf := 1) (kz := 1) rfl kd_4 rfl ⟨by decide, by decide⟩ rfl wf_1_27 dX1_placeOf_20 ?_
      refine v_getJ (kf := 4) (kz := 4) rfl kd_1 rfl ⟨by decide, by decide⟩ rfl wf_1_172 dX1_placeOf_23 ?_
      refine v_aload_n (f := 1) 1 rfl dX1_placeOf_26 ?_
      refine v_iload_n (f := 2) 2 rfl dX1_placeOf_27 ?_
      refine v_laload kd_106 g4 (by decide) dX1_placeOf_28 ?_
      refine v_lcmpN dX1_placeOf_29 ?_
      refine v_if_ne (tgt := 35) dX1_placeOf_30 (by decide) (fun c5 => ?_) (fun c5 => ?_)
      · replace h := b_wp_f c5 h
        obtain ⟨g6, h⟩ := b_wp_g h
        refine v_iincN (ls' := [(2, bI _), (0, bR _), (1, bR _)]) 2 rfl (by decide) g6 dX1_placeOf_35 rfl ?_
        refine v_goto (tgt := 2) dX1_placeOf_38 (by decide) ?_
        refine v_sub (ls2 := [(0, bR _), (1, bR _), (2, bI _)]) [1, 2, 0] rfl ?_
        exact h
      · replace h := b_wp_t c5 h
        refine v_iload_n (f := 2) 2 rfl dX1_placeOf_33 ?_
        refine v_ireturn rfl dX1_placeOf_34 ⟨by decide, by decide⟩ ?_
        exact ⟨_, rfl, rfl, h⟩
theorem l_X1_placeOf_106_2 {l : Launch} {E : bE} {Q : Int → Prop} {M : bM} {s : Int} (h : b_wp (b_loop (fun t => F_X1_placeOf_106_s2 t M) s) (X_X1_placeOf_106_2 l E Q M)) : A_X1_placeOf_106_2 l E Q M s := b_loop_wp (fun t h => t_X1_placeOf_106_s2 h) s h
noncomputable def F_X1_placeOf_106_b41 (M : bM) : Option (Int) :=
  some (-1)
theorem t_X1_placeOf_106_b41 {l : Launch} {E : bE} {Q : Int → Prop} {M : bM} (h : b_wp (F_X1_placeOf_106_b41 M) (Q)) : V l E xX1_placeOf (0, 0) 41 [] [] M (b_pIp M Q) := by
  unfold F_X1_placeOf_106_b41 at h
  refine v_iconst ⟨by decide, by decide⟩ dX1_placeOf_41 ?_
  refine v_ireturn rfl dX1_placeOf_42 ⟨by decide, by decide⟩ ?_
  exact ⟨_, rfl, rfl, h⟩
noncomputable def F_X1_placeOf_106 (M : bM) : Option (Int) :=
  b_bind (b_loop (fun t => F_X1_placeOf_106_s2 t M) (0)) (Sum.elim (fun t => F_X1_placeOf_106_b41 M) some)
theorem t_X1_placeOf_106 {l : Launch} {E : bE} {Q : Int → Prop} {M : bM} (h : b_wp (F_X1_placeOf_106 M) (Q)) : V l E xX1_placeOf (0, 0) 0 [(0, bR 4), (1, bR 106)] [] M (b_pIp M Q) := by
  unfold F_X1_placeOf_106 at h
  refine v_iconst ⟨by decide, by decide⟩ dX1_placeOf_0 ?_
  refine v_istore_n (g := 2) (i := 2) (ls' := [(2, bI _), (0, bR _), (1, bR _)]) rfl (by decide) dX1_placeOf_1 rfl ?_
  refine v_sub (ls2 := [(0, bR _), (1, bR _), (2, bI _)]) [1, 2, 0] rfl ?_
  refine l_X1_placeOf_106_2 (b_wp_m (fun t h => ?_) (b_wp_b h))
  cases t with
  | inr o => exact h
  | inl t =>
    show V l E xX1_placeOf (0, 0) 41 [] [] _ (b_pIp M Q)
    replace h := b_wp_inl h
    exact t_X1_placeOf_106_b41 h
theorem cf_X1_placeOf_106 {l : Launch} {E : bE} {M : bM} {Q : Int → Prop} (h : b_wp (F_X1_placeOf_106 M) Q) : b_C l E xX1_placeOf yX1_placeOf [bR 4, bR 106] M (b_pIp M Q) := b_met (by decide) ⟨rfl, rfl⟩ (Nat.le_of_ble_eq_true rfl) (fun _ _ => t_X1_placeOf_106 h)
abbrev xX1_isTerm : bX := ("BurntHall$Acts", prog_3_method_16_code, 1, (Option.some Jvm.ClassFile.FieldType.boolean), b_rm 2 0 0, 0, "isTerm")
abbrev yX1_isTerm : MethodName := ⟨"BurntHall$Acts", "isTerm", "()Z"⟩
theorem dX1_isTerm_0 : decode prog_3_method_16_code 0 = .ok (.aload_n 0, 1) := by decide +kernel
theorem dX1_isTerm_1 : decode prog_3_method_16_code 1 = .ok (.getfield 27, 3) := by decide +kernel
theorem dX1_isTerm_4 : decode prog_3_method_16_code 4 = .ok (.getfield 86, 3) := by decide +kernel
theorem dX1_isTerm_7 : decode prog_3_method_16_code 7 = .ok (.iconst 2, 1) := by decide +kernel
theorem dX1_isTerm_8 : decode prog_3_method_16_code 8 = .ok (.if_icmp .eq 26, 3) := by decide +kernel
theorem dX1_isTerm_11 : decode prog_3_method_16_code 11 = .ok (.aload_n 0, 1) := by decide +kernel
theorem dX1_isTerm_12 : decode prog_3_method_16_code 12 = .ok (.getfield 27, 3) := by decide +kernel
theorem dX1_isTerm_15 : decode prog_3_method_16_code 15 = .ok (.getfield 86, 3) := by decide +kernel
theorem dX1_isTerm_18 : decode prog_3_method_16_code 18 = .ok (.iconst 1, 1) := by decide +kernel
theorem dX1_isTerm_19 : decode prog_3_method_16_code 19 = .ok (.if_icmp .ne 19, 3) := by decide +kernel
theorem dX1_isTerm_22 : decode prog_3_method_16_code 22 = .ok (.aload_n 0, 1) := by decide +kernel
theorem dX1_isTerm_23 : decode prog_3_method_16_code 23 = .ok (.aload_n 0, 1) := by decide +kernel
theorem dX1_isTerm_24 : decode prog_3_method_16_code 24 = .ok (.getfield 47, 3) := by decide +kernel
theorem dX1_isTerm_27 : decode prog_3_method_16_code 27 = .ok (.invokevirtual 89, 3) := by decide +kernel
theorem dX1_isTerm_30 : decode prog_3_method_16_code 30 = .ok (.iconst (-1), 1) := by decide +kernel
theorem dX1_isTerm_31 : decode prog_3_method_16_code 31 = .ok (.if_icmp .ne 7, 3) := by decide +kernel
theorem dX1_isTerm_34 : decode prog_3_method_16_code 34 = .ok (.iconst 1, 1) := by decide +kernel
theorem dX1_isTerm_35 : decode prog_3_method_16_code 35 = .ok (.goto 4, 3) := by decide +kernel
theorem dX1_isTerm_38 : decode prog_3_method_16_code 38 = .ok (.iconst 0, 1) := by decide +kernel
theorem dX1_isTerm_39 : decode prog_3_method_16_code 39 = .ok (.ireturn, 1) := by decide +kernel
noncomputable def F_X1_isTerm (M : bM) : Option (Int) :=
  if (M 1 2) = 2 then (some 1) else (if (M 1 2) = 1 then (b_bind (F_X1_placeOf_106 M) (fun x3 => if x3 = (-1) then (some 1) else (some 0))) else (some 0))
theorem t_X1_isTerm {l : Launch} {E : bE} {Q : Int → Prop} {M : bM} (h : b_wp (F_X1_isTerm M) (Q)) : V l E xX1_isTerm (0, 0) 0 [(0, bR 4)] [] M (b_pIp M Q) := by
  unfold F_X1_isTerm at h
  refine v_aload_n (f := 0) 0 rfl dX1_isTerm_0 ?_
  refine v_getR (kf := 1) (kz := 1) rfl kd_4 rfl ⟨by decide, by decide⟩ rfl wf_1_27 dX1_isTerm_1 ?_
  refine v_getI (kf := 2) (kz := 2) rfl kd_1 rfl ⟨by decide, by decide⟩ rfl wf_1_86 dX1_isTerm_4 ?_
  refine v_iconst ⟨by decide, by decide⟩ dX1_isTerm_7 ?_
  refine v_icmp_eq (tgt := 34) dX1_isTerm_8 (by decide) (fun c1 => ?_) (fun c1 => ?_)
  · replace h := b_wp_t c1 h
    refine v_iconst ⟨by decide, by decide⟩ dX1_isTerm_34 ?_
    refine v_goto (tgt := 39) dX1_isTerm_35 (by decide) ?_
    refine v_zreturn rfl (Or.inr rfl) dX1_isTerm_39 ⟨by decide, by decide⟩ ?_
    exact ⟨_, rfl, rfl, h⟩
  · replace h := b_wp_f c1 h
    refine v_aload_n (f := 0) 0 rfl dX1_isTerm_11 ?_
    refine v_getR (kf := 1) (kz := 1) rfl kd_4 rfl ⟨by decide, by decide⟩ rfl wf_1_27 dX1_isTerm_12 ?_
    refine v_getI (kf := 2) (kz := 2) rfl kd_1 rfl ⟨by decide, by decide⟩ rfl wf_1_86 dX1_isTerm_15 ?_
    refine v_iconst ⟨by decide, by decide⟩ dX1_isTerm_18 ?_
    refine v_icmp_ne (tgt := 38) dX1_isTerm_19 (by decide) (fun c2 => ?_) (fun c2 => ?_)
    · replace h := b_wp_f c2 h
      refine v_iconst ⟨by decide, by decide⟩ dX1_isTerm_38 ?_
      refine v_zreturn rfl (Or.inl rfl) dX1_isTerm_39 ⟨by decide, by decide⟩ ?_
      exact ⟨_, rfl, rfl, h⟩
    · replace h := b_wp_t c2 h
      refine v_aload_n (f := 0) 0 rfl dX1_isTerm_22 ?_
      refine v_aload_n (f := 0) 0 rfl dX1_isTerm_23 ?_
      refine v_getR (kf := 4) (kz := 4) rfl kd_4 rfl ⟨by decide, by decide⟩ rfl wf_1_47 dX1_isTerm_24 ?_
      refine v_cVIp (nA := 1) (As := [bR _]) (ix := 89) (cf_X1_placeOf_106 (b_wp_b h)) rfl kd_4 rfl rfl wc_X1_placeOf wm_1_89 wi_X1_placeOf ws_X1_placeOf wn_1 ⟨by decide, by decide, by decide⟩ rfl ⟨by decide, by decide⟩ ⟨by decide, by decide⟩ (Nat.le_of_ble_eq_true rfl) dX1_isTerm_27 (fun x3 h => ?_)
      refine v_iconst ⟨by decide, by decide⟩ dX1_isTerm_30 ?_
      refine v_icmp_ne (tgt := 38) dX1_isTerm_31 (by decide) (fun c4 => ?_) (fun c4 => ?_)
      · replace h := b_wp_f c4 h
        refine v_iconst ⟨by decide, by decide⟩ dX1_isTerm_38 ?_
        refine v_zreturn rfl (Or.inl rfl) dX1_isTerm_39 ⟨by decide, by decide⟩ ?_
        exact ⟨_, rfl, rfl, h⟩
      · replace h := b_wp_t c4 h
        refine v_iconst ⟨by decide, by decide⟩ dX1_isTerm_34 ?_
        refine v_goto (tgt := 39) dX1_isTerm_35 (by decide) ?_
        refine v_zreturn rfl (Or.inr rfl) dX1_isTerm_39 ⟨by decide, by decide⟩ ?_
        exact ⟨_, rfl, rfl, h⟩
theorem cf_X1_isTerm {l : Launch} {E : bE} {M : bM} {Q : Int → Prop} (h : b_wp (F_X1_isTerm M) Q) : b_C l E xX1_isTerm yX1_isTerm [bR 4] M (b_pIp M Q) := b_met (by decide) ⟨rfl, rfl⟩ (Nat.le_of_ble_eq_true rfl) (fun _ _ => t_X1_isTerm h)
abbrev xX1_emit : bX := ("BurntHall$Acts", prog_3_method_17_code, 4, (Option.none : Option Jvm.ClassFile.FieldType), b_rm 1 0 0, 0, "emit")
abbrev yX1_emit : MethodName := ⟨"BurntHall$Acts", "emit", "(IJ)V"⟩
theorem dX1_emit_0 : decode prog_3_method_17_code 0 = .ok (.aload_n 0, 1) := by decide +kernel
theorem dX1_emit_1 : decode prog_3_method_17_code 1 = .ok (.getfield 66, 3) := by decide +kernel
theorem dX1_emit_4 : decode prog_3_method_17_code 4 = .ok (.aload_n 0, 1) := by decide +kernel
theorem dX1_emit_5 : decode prog_3_method_17_code 5 = .ok (.getfield 19, 3) := by decide +kernel
theorem dX1_emit_8 : decode prog_3_method_17_code 8 = .ok (.arraylength, 1) := by decide +kernel
theorem dX1_emit_9 : decode prog_3_method_17_code 9 = .ok (.if_icmp .ge 28, 3) := by decide +kernel
theorem dX1_emit_12 : decode prog_3_method_17_code 12 = .ok (.aload_n 0, 1) := by decide +kernel
theorem dX1_emit_13 : decode prog_3_method_17_code 13 = .ok (.getfield 19, 3) := by decide +kernel
theorem dX1_emit_16 : decode prog_3_method_17_code 16 = .ok (.aload_n 0, 1) := by decide +kernel
theorem dX1_emit_17 : decode prog_3_method_17_code 17 = .ok (.getfield 66, 3) := by decide +kernel
theorem dX1_emit_20 : decode prog_3_method_17_code 20 = .ok (.lload_n 2, 1) := by decide +kernel
theorem dX1_emit_21 : decode prog_3_method_17_code 21 = .ok (.iconst 4, 1) := by decide +kernel
theorem dX1_emit_22 : decode prog_3_method_17_code 22 = .ok (.lshl, 1) := by decide +kernel
theorem dX1_emit_23 : decode prog_3_method_17_code 23 = .ok (.iload_n 1, 1) := by decide +kernel
theorem dX1_emit_24 : decode prog_3_method_17_code 24 = .ok (.i2l, 1) := by decide +kernel
theorem dX1_emit_25 : decode prog_3_method_17_code 25 = .ok (.lor, 1) := by decide +kernel
theorem dX1_emit_26 : decode prog_3_method_17_code 26 = .ok (.lastore, 1) := by decide +kernel
theorem dX1_emit_27 : decode prog_3_method_17_code 27 = .ok (.aload_n 0, 1) := by decide +kernel
theorem dX1_emit_28 : decode prog_3_method_17_code 28 = .ok (.dup, 1) := by decide +kernel
theorem dX1_emit_29 : decode prog_3_method_17_code 29 = .ok (.getfield 66, 3) := by decide +kernel
theorem dX1_emit_32 : decode prog_3_method_17_code 32 = .ok (.iconst 1, 1) := by decide +kernel
theorem dX1_emit_33 : decode prog_3_method_17_code 33 = .ok (.iadd, 1) := by decide +kernel
theorem dX1_emit_34 : decode prog_3_method_17_code 34 = .ok (.putfield 66, 3) := by decide +kernel
theorem dX1_emit_37 : decode prog_3_method_17_code 37 = .ok (.return_, 1) := by decide +kernel
noncomputable def F_X1_emit (v1 : Int) (v2 : Int) (M : bM) : Option (bM) :=
  if 1000 ≤ (M 4 9) then (some M) else (b_g (0 ≤ (M 4 9) ∧ (M 4 9) < 1000) (b_let (b_up M 108 (M 4 9) (j_or (j_shl v2 4) v1)) (fun M3 => b_g (b_i32 ((M3 4 9) + 1)) (b_let (b_up M3 4 9 ((M3 4 9) + 1)) (fun M5 => some M5)))))
theorem t_X1_emit {l : Launch} {E : bE} {Q : bM → Prop} {v1 : Int} {v2 : Int} {M : bM} (h : b_wp (F_X1_emit v1 v2 M) (Q)) : V l E xX1_emit (0, 0) 0 [(0, bR 4), (1, bI v1), (2, bJ v2)] [] M (b_pV Q) := by
  unfold F_X1_emit at h
  refine v_aload_n (f := 0) 0 rfl dX1_emit_0 ?_
  refine v_getI (kf := 9) (kz := 9) rfl kd_4 rfl ⟨by decide, by decide⟩ rfl wf_1_66 dX1_emit_1 ?_
  refine v_aload_n (f := 0) 0 rfl dX1_emit_4 ?_
  refine v_getR (kf := 6) (kz := 6) rfl kd_4 rfl ⟨by decide, by decide⟩ rfl wf_1_19 dX1_emit_5 ?_
  refine v_alen4 kd_108 (by decide) dX1_emit_8 ?_
  refine v_icmp_ge (tgt := 37) dX1_emit_9 (by decide) (fun c1 => ?_) (fun c1 => ?_)
  · replace h := b_wp_t c1 h
    refine v_return rfl dX1_emit_37 ⟨by decide, by decide⟩ ?_
    exact ⟨rfl, h⟩
  · replace h := b_wp_f c1 h
    obtain ⟨g2, h⟩ := b_wp_g h
    refine v_aload_n (f := 0) 0 rfl dX1_emit_12 ?_
    refine v_getR (kf := 6) (kz := 6) rfl kd_4 rfl ⟨by decide, by decide⟩ rfl wf_1_19 dX1_emit_13 ?_
    refine v_aload_n (f := 0) 0 rfl dX1_emit_16 ?_
    refine v_getI (kf := 9) (kz := 9) rfl kd_4 rfl ⟨by decide, by decide⟩ rfl wf_1_66 dX1_emit_17 ?_
    refine v_lload_n (f := 2) 2 rfl dX1_emit_20 ?_
    refine v_iconst ⟨by decide, by decide⟩ dX1_emit_21 ?_
    refine v_lshl (v := j_shl _ _) rfl dX1_emit_22 ?_
    refine v_iload_n (f := 1) 1 rfl dX1_emit_23 ?_
    refine v_i2lN dX1_emit_24 ?_
    refine v_lor (v := j_or _ _) rfl dX1_emit_25 ?_
    refine v_lastore kd_108 g2 (by decide) dX1_emit_26 ?_
    replace h := b_wp_l h
    obtain ⟨g4, h⟩ := b_wp_g h
    refine v_aload_n (f := 0) 0 rfl dX1_emit_27 ?_
    refine v_dup rfl dX1_emit_28 ?_
    refine v_getI (kf := 9) (kz := 9) rfl kd_4 rfl ⟨by decide, by decide⟩ rfl wf_1_66 dX1_emit_29 ?_
    refine v_iconst ⟨by decide, by decide⟩ dX1_emit_32 ?_
    refine v_iaddN g4 dX1_emit_33 ?_
    refine v_putI (kf := 9) (kz := 9) rfl kd_4 rfl ⟨by decide, by decide⟩ rfl wf_1_66 rfl rfl dX1_emit_34 ?_
    replace h := b_wp_l h
    refine v_return rfl dX1_emit_37 ⟨by decide, by decide⟩ ?_
    exact ⟨rfl, h⟩
theorem cf_X1_emit {l : Launch} {E : bE} {M : bM} {v1 : Int} {v2 : Int} {Q : bM → Prop} (h : b_wp (F_X1_emit v1 v2 M) Q) : b_C l E xX1_emit yX1_emit [bR 4, bI v1, bJ v2] M (b_pV Q) := b_met (by decide) ⟨rfl, rfl⟩ (Nat.le_of_ble_eq_true rfl) (fun _ _ => t_X1_emit h)
abbrev xX1_readSum : bX := ("BurntHall$Acts", prog_3_method_15_code, 2, (Option.some Jvm.ClassFile.FieldType.boolean), b_rm 3 0 0, 0, "readSum")
abbrev yX1_readSum : MethodName := ⟨"BurntHall$Acts", "readSum", "()Z"⟩
theorem dX1_readSum_0 : decode prog_3_method_15_code 0 = .ok (.iconst 0, 1) := by decide +kernel
theorem dX1_readSum_1 : decode prog_3_method_15_code 1 = .ok (.istore_n 1, 1) := by decide +kernel
theorem dX1_readSum_2 : decode prog_3_method_15_code 2 = .ok (.iload_n 1, 1) := by decide +kernel
theorem dX1_readSum_3 : decode prog_3_method_15_code 3 = .ok (.sipush 1000, 3) := by decide +kernel
theorem dX1_readSum_6 : decode prog_3_method_15_code 6 = .ok (.if_icmp .ge 104, 3) := by decide +kernel
theorem dX1_readSum_9 : decode prog_3_method_15_code 9 = .ok (.aload_n 0, 1) := by decide +kernel
theorem dX1_readSum_10 : decode prog_3_method_15_code 10 = .ok (.invokevirtual 166, 3) := by decide +kernel
theorem dX1_readSum_13 : decode prog_3_method_15_code 13 = .ok (.ifCond .ne 12, 3) := by decide +kernel
theorem dX1_readSum_16 : decode prog_3_method_15_code 16 = .ok (.aload_n 0, 1) := by decide +kernel
theorem dX1_readSum_17 : decode prog_3_method_15_code 17 = .ok (.getfield 27, 3) := by decide +kernel
theorem dX1_readSum_20 : decode prog_3_method_15_code 20 = .ok (.iconst 1, 1) := by decide +kernel
theorem dX1_readSum_21 : decode prog_3_method_15_code 21 = .ok (.invokevirtual 105, 3) := by decide +kernel
theorem dX1_readSum_24 : decode prog_3_method_15_code 24 = .ok (.ireturn, 1) := by decide +kernel
theorem dX1_readSum_25 : decode prog_3_method_15_code 25 = .ok (.iload_n 1, 1) := by decide +kernel
theorem dX1_readSum_26 : decode prog_3_method_15_code 26 = .ok (.iconst 3, 1) := by decide +kernel
theorem dX1_readSum_27 : decode prog_3_method_15_code 27 = .ok (.if_icmp .lt 12, 3) := by decide +kernel
theorem dX1_readSum_30 : decode prog_3_method_15_code 30 = .ok (.aload_n 0, 1) := by decide +kernel
theorem dX1_readSum_31 : decode prog_3_method_15_code 31 = .ok (.getfield 27, 3) := by decide +kernel
theorem dX1_readSum_34 : decode prog_3_method_15_code 34 = .ok (.iconst 4, 1) := by decide +kernel
theorem dX1_readSum_35 : decode prog_3_method_15_code 35 = .ok (.invokevirtual 105, 3) := by decide +kernel
theorem dX1_readSum_38 : decode prog_3_method_15_code 38 = .ok (.ireturn, 1) := by decide +kernel
theorem dX1_readSum_39 : decode prog_3_method_15_code 39 = .ok (.aload_n 0, 1) := by decide +kernel
theorem dX1_readSum_40 : decode prog_3_method_15_code 40 = .ok (.aload_n 0, 1) := by decide +kernel
theorem dX1_readSum_41 : decode prog_3_method_15_code 41 = .ok (.getfield 27, 3) := by decide +kernel
theorem dX1_readSum_44 : decode prog_3_method_15_code 44 = .ok (.getfield 86, 3) := by decide +kernel
theorem dX1_readSum_47 : decode prog_3_method_15_code 47 = .ok (.iconst 2, 1) := by decide +kernel
theorem dX1_readSum_48 : decode prog_3_method_15_code 48 = .ok (.if_icmp .ne 7, 3) := by decide +kernel
theorem dX1_readSum_51 : decode prog_3_method_15_code 51 = .ok (.iconst 0, 1) := by decide +kernel
theorem dX1_readSum_52 : decode prog_3_method_15_code 52 = .ok (.goto 4, 3) := by decide +kernel
theorem dX1_readSum_55 : decode prog_3_method_15_code 55 = .ok (.iconst 1, 1) := by decide +kernel
theorem dX1_readSum_56 : decode prog_3_method_15_code 56 = .ok (.aload_n 0, 1) := by decide +kernel
theorem dX1_readSum_57 : decode prog_3_method_15_code 57 = .ok (.getfield 27, 3) := by decide +kernel
theorem dX1_readSum_60 : decode prog_3_method_15_code 60 = .ok (.getfield 172, 3) := by decide +kernel
theorem dX1_readSum_63 : decode prog_3_method_15_code 63 = .ok (.invokevirtual 162, 3) := by decide +kernel
theorem dX1_readSum_66 : decode prog_3_method_15_code 66 = .ok (.iload_n 1, 1) := by decide +kernel
theorem dX1_readSum_67 : decode prog_3_method_15_code 67 = .ok (.ifCond .le 9, 3) := by decide +kernel
theorem dX1_readSum_70 : decode prog_3_method_15_code 70 = .ok (.aload_n 0, 1) := by decide +kernel
theorem dX1_readSum_71 : decode prog_3_method_15_code 71 = .ok (.iconst 2, 1) := by decide +kernel
theorem dX1_readSum_72 : decode prog_3_method_15_code 72 = .ok (.lconst 0, 1) := by decide +kernel
theorem dX1_readSum_73 : decode prog_3_method_15_code 73 = .ok (.invokevirtual 162, 3) := by decide +kernel
theorem dX1_readSum_76 : decode prog_3_method_15_code 76 = .ok (.aload_n 0, 1) := by decide +kernel
theorem dX1_readSum_77 : decode prog_3_method_15_code 77 = .ok (.getfield 27, 3) := by decide +kernel
theorem dX1_readSum_80 : decode prog_3_method_15_code 80 = .ok (.invokevirtual 108, 3) := by decide +kernel
theorem dX1_readSum_83 : decode prog_3_method_15_code 83 = .ok (.aload_n 0, 1) := by decide +kernel
theorem dX1_readSum_84 : decode prog_3_method_15_code 84 = .ok (.getfield 27, 3) := by decide +kernel
theorem dX1_readSum_87 : decode prog_3_method_15_code 87 = .ok (.bipush 43, 2) := by decide +kernel
theorem dX1_readSum_89 : decode prog_3_method_15_code 89 = .ok (.invokevirtual 101, 3) := by decide +kernel
theorem dX1_readSum_92 : decode prog_3_method_15_code 92 = .ok (.ifCond .ne 5, 3) := by decide +kernel
theorem dX1_readSum_95 : decode prog_3_method_15_code 95 = .ok (.iconst 1, 1) := by decide +kernel
theorem dX1_readSum_96 : decode prog_3_method_15_code 96 = .ok (.ireturn, 1) := by decide +kernel
theorem dX1_readSum_97 : decode prog_3_method_15_code 97 = .ok (.aload_n 0, 1) := by decide +kernel
theorem dX1_readSum_98 : decode prog_3_method_15_code 98 = .ok (.getfield 27, 3) := by decide +kernel
theorem dX1_readSum_101 : decode prog_3_method_15_code 101 = .ok (.invokevirtual 108, 3) := by decide +kernel
theorem dX1_readSum_104 : decode prog_3_method_15_code 104 = .ok (.iinc 1 1, 3) := by decide +kernel
theorem dX1_readSum_107 : decode prog_3_method_15_code 107 = .ok (.goto (-105), 3) := by decide +kernel
theorem dX1_readSum_110 : decode prog_3_method_15_code 110 = .ok (.iconst 0, 1) := by decide +kernel
theorem dX1_readSum_111 : decode prog_3_method_15_code 111 = .ok (.ireturn, 1) := by decide +kernel
abbrev A_X1_readSum_2 (l : Launch) (E : bE) (Q : (Int × bM) → Prop) : (Int × bM) → Prop := (fun t : Int × bM => V l E xX1_readSum (0, 0) 2 [(0, bR 4), (1, bI (t.1))] [] t.2 (b_pI Q))
abbrev X_X1_readSum_2 (l : Launch) (E : bE) (Q : (Int × bM) → Prop) : ((bM) ⊕ (Int × bM)) → Prop := (Sum.elim (fun t : bM => V l E xX1_readSum (0, 0) 110 [] [] t (b_pI Q)) Q)
noncomputable def F_X1_readSum_b76 (v1 : Int) (M : bM) : Option ((Int × bM) ⊕ ((bM) ⊕ (Int × bM))) :=
  b_bind (F_X10_step M) (fun M8 => b_bind (F_X10_isSign 43 M8) (fun x9 => if x9 = 0 then (some (.inr (.inr (1, M8)))) else (b_bind (F_X10_step M8) (fun M11 => b_g (b_i32 (v1 + 1)) (some (.inl ((v1 + 1), M11)))))))
theorem t_X1_readSum_b76 {l : Launch} {E : bE} {Q : (Int × bM) → Prop} {v1 : Int} {M : bM} (h : b_wp (F_X1_readSum_b76 v1 M) (Sum.elim (A_X1_readSum_2 l E Q ) (X_X1_readSum_2 l E Q ))) : V l E xX1_readSum (0, 0) 76 [(0, bR 4), (1, bI v1)] [] M (b_pI Q) := by
  unfold F_X1_readSum_b76 at h
  refine v_aload_n (f := 0) 0 rfl dX1_readSum_76 ?_
  refine v_getR (kf := 1) (kz := 1) rfl kd_4 rfl ⟨by decide, by decide⟩ rfl wf_1_27 dX1_readSum_77 ?_
  refine v_cVV (nA := 0) (As := []) (ix := 108) (cf_X10_step (b_wp_b h)) rfl kd_1 rfl rfl wc_X10_step wm_1_108 wi_X10_step ws_X10_step wn_10 ⟨by decide, by decide, by decide⟩ rfl ⟨by decide, by decide⟩ ⟨by decide, by decide⟩ (Nat.le_of_ble_eq_true rfl) dX1_readSum_80 (fun M8 h => ?_)
  refine v_aload_n (f := 0) 0 rfl dX1_readSum_83 ?_
  refine v_getR (kf := 1) (kz := 1) rfl kd_4 rfl ⟨by decide, by decide⟩ rfl wf_1_27 dX1_readSum_84 ?_
  refine v_bipush ⟨by decide, by decide⟩ (by decide) dX1_readSum_87 ?_
  refine v_cVIp (nA := 1) (As := [bI _]) (ix := 101) (cf_X10_isSign (b_wp_b h)) rfl kd_1 rfl rfl wc_X10_isSign wm_1_101 wi_X10_isSign ws_X10_isSign wn_10 ⟨by decide, by decide, by decide⟩ rfl ⟨by decide, by decide⟩ ⟨by decide, by decide⟩ (Nat.le_of_ble_eq_true rfl) dX1_readSum_89 (fun x9 h => ?_)
  refine v_if_ne (tgt := 97) dX1_readSum_92 (by decide) (fun c10 => ?_) (fun c10 => ?_)
  · replace h := b_wp_f c10 h
    refine v_aload_n (f := 0) 0 rfl dX1_readSum_97 ?_
    refine v_getR (kf := 1) (kz := 1) rfl kd_4 rfl ⟨by decide, by decide⟩ rfl wf_1_27 dX1_readSum_98 ?_
    refine v_cVV (nA := 0) (As := []) (ix := 108) (cf_X10_step (b_wp_b h)) rfl kd_1 rfl rfl wc_X10_step wm_1_108 wi_X10_step ws_X10_step wn_10 ⟨by decide, by decide, by decide⟩ rfl ⟨by decide, by decide⟩ ⟨by decide, by decide⟩ (Nat.le_of_ble_eq_true rfl) dX1_readSum_101 (fun M11 h => ?_)
    obtain ⟨g12, h⟩ := b_wp_g h
    refine v_iincN (ls' := [(1, bI _), (0, bR _)]) 1 rfl (by decide) g12 dX1_readSum_104 rfl ?_
    refine v_goto (tgt := 2) dX1_readSum_107 (by decide) ?_
    refine v_sub (ls2 := [(0, bR _), (1, bI _)]) [1, 0] rfl ?_
    exact h
  · replace h := b_wp_t c10 h
    refine v_iconst ⟨by decide, by decide⟩ dX1_readSum_95 ?_
    refine v_zreturn rfl (Or.inr rfl) dX1_readSum_96 ⟨by decide, by decide⟩ ?_
    exact ⟨_, rfl, h⟩
noncomputable def F_X1_readSum_b56 (v1 : Int) (u1 : Int) (M : bM) : Option ((Int × bM) ⊕ ((bM) ⊕ (Int × bM))) :=
  b_bind (F_X1_emit u1 (M 1 4) M) (fun M6 => if v1 ≤ 0 then (F_X1_readSum_b76 v1 M6) else (b_bind (F_X1_emit 2 0 M6) (fun M13 => F_X1_readSum_b76 v1 M13)))
theorem t_X1_readSum_b56 {l : Launch} {E : bE} {Q : (Int × bM) → Prop} {v1 : Int} {u1 : Int} {M : bM} (h : b_wp (F_X1_readSum_b56 v1 u1 M) (Sum.elim (A_X1_readSum_2 l E Q ) (X_X1_readSum_2 l E Q ))) : V l E xX1_readSum (0, 0) 56 [(0, bR 4), (1, bI v1)] [bI u1, bR 4] M (b_pI Q) := by
  unfold F_X1_readSum_b56 at h
  refine v_aload_n (f := 0) 0 rfl dX1_readSum_56 ?_
  refine v_getR (kf := 1) (kz := 1) rfl kd_4 rfl ⟨by decide, by decide⟩ rfl wf_1_27 dX1_readSum_57 ?_
  refine v_getJ (kf := 4) (kz := 4) rfl kd_1 rfl ⟨by decide, by decide⟩ rfl wf_1_172 dX1_readSum_60 ?_
  refine v_cVV (nA := 2) (As := [bI _, bJ _]) (ix := 162) (cf_X1_emit (b_wp_b h)) rfl kd_4 rfl rfl wc_X1_emit wm_1_162 wi_X1_emit ws_X1_emit wn_1 ⟨by decide, by decide, by decide⟩ rfl ⟨by decide, by decide⟩ ⟨by decide, by decide⟩ (Nat.le_of_ble_eq_true rfl) dX1_readSum_63 (fun M6 h => ?_)
  refine v_iload_n (f := 1) 1 rfl dX1_readSum_66 ?_
  refine v_if_le (tgt := 76) dX1_readSum_67 (by decide) (fun c7 => ?_) (fun c7 => ?_)
  · replace h := b_wp_t c7 h
    exact t_X1_readSum_b76 h
  · replace h := b_wp_f c7 h
    refine v_aload_n (f := 0) 0 rfl dX1_readSum_70 ?_
    refine v_iconst ⟨by decide, by decide⟩ dX1_readSum_71 ?_
    refine v_lconst0 dX1_readSum_72 ?_
    refine v_cVV (nA := 2) (As := [bI _, bJ _]) (ix := 162) (cf_X1_emit (b_wp_b h)) rfl kd_4 rfl rfl wc_X1_emit wm_1_162 wi_X1_emit ws_X1_emit wn_1 ⟨by decide, by decide, by decide⟩ rfl ⟨by decide, by decide⟩ ⟨by decide, by decide⟩ (Nat.le_of_ble_eq_true rfl) dX1_readSum_73 (fun M13 h => ?_)
    exact t_X1_readSum_b76 h
noncomputable def F_X1_readSum_s2 (v1 : Int) (M : bM) : Option ((Int × bM) ⊕ ((bM) ⊕ (Int × bM))) :=
  if 1000 ≤ v1 then (some (.inr (.inl (M)))) else (b_bind (F_X1_isTerm M) (fun x2 => if x2 = 0 then (b_bind (F_X10_wrong 1 M) (fun t => b_two t (fun x17 M18 => b_g (x17 = 0 ∨ x17 = 1) (some (.inr (.inr (x17, M18))))))) else (if v1 < 3 then (if (M 1 2) = 2 then (F_X1_readSum_b56 v1 0 M) else (F_X1_readSum_b56 v1 1 M)) else (b_bind (F_X10_wrong 4 M) (fun t => b_two t (fun x14 M15 => b_g (x14 = 0 ∨ x14 = 1) (some (.inr (.inr (x14, M15))))))))))
theorem t_X1_readSum_s2 {l : Launch} {E : bE} {Q : (Int × bM) → Prop} {v1 : Int} {M : bM} (h : b_wp (F_X1_readSum_s2 v1 M) (Sum.elim (A_X1_readSum_2 l E Q ) (X_X1_readSum_2 l E Q ))) : V l E xX1_readSum (0, 0) 2 [(0, bR 4), (1, bI v1)] [] M (b_pI Q) := by
  unfold F_X1_readSum_s2 at h
  refine v_iload_n (f := 1) 1 rfl dX1_readSum_2 ?_
  refine v_sipush ⟨by decide, by decide⟩ (by decide) dX1_readSum_3 ?_
  refine v_icmp_ge (tgt := 110) dX1_readSum_6 (by decide) (fun c1 => ?_) (fun c1 => ?_)
  · replace h := b_wp_t c1 h
    refine v_sub (ls2 := []) [] rfl ?_
    exact h
  · replace h := b_wp_f c1 h
    refine v_aload_n (f := 0) 0 rfl dX1_readSum_9 ?_
    refine v_cVIp (nA := 0) (As := []) (ix := 166) (cf_X1_isTerm (b_wp_b h)) rfl kd_4 rfl rfl wc_X1_isTerm wm_1_166 wi_X1_isTerm ws_X1_isTerm wn_1 ⟨by decide, by decide, by decide⟩ rfl ⟨by decide, by decide⟩ ⟨by decide, by decide⟩ (Nat.le_of_ble_eq_true rfl) dX1_readSum_10 (fun x2 h => ?_)
    refine v_if_ne (tgt := 25) dX1_readSum_13 (by decide) (fun c3 => ?_) (fun c3 => ?_)
    · replace h := b_wp_f c3 h
      refine v_iload_n (f := 1) 1 rfl dX1_readSum_25 ?_
      refine v_iconst ⟨by decide, by decide⟩ dX1_readSum_26 ?_
      refine v_icmp_lt (tgt := 39) dX1_readSum_27 (by decide) (fun c4 => ?_) (fun c4 => ?_)
      · replace h := b_wp_t c4 h
        refine v_aload_n (f := 0) 0 rfl dX1_readSum_39 ?_
        refine v_aload_n (f := 0) 0 rfl dX1_readSum_40 ?_
        refine v_getR (kf := 1) (kz := 1) rfl kd_4 rfl ⟨by decide, by decide⟩ rfl wf_1_27 dX1_readSum_41 ?_
        refine v_getI (kf := 2) (kz := 2) rfl kd_1 rfl ⟨by decide, by decide⟩ rfl wf_1_86 dX1_readSum_44 ?_
        refine v_iconst ⟨by decide, by decide⟩ dX1_readSum_47 ?_
        refine v_icmp_ne (tgt := 55) dX1_readSum_48 (by decide) (fun c5 => ?_) (fun c5 => ?_)
        · replace h := b_wp_f c5 h
          refine v_iconst ⟨by decide, by decide⟩ dX1_readSum_55 ?_
          exact t_X1_readSum_b56 h
        · replace h := b_wp_t c5 h
          refine v_iconst ⟨by decide, by decide⟩ dX1_readSum_51 ?_
          refine v_goto (tgt := 56) dX1_readSum_52 (by decide) ?_
          exact t_X1_readSum_b56 h
      · replace h := b_wp_f c4 h
        refine v_aload_n (f := 0) 0 rfl dX1_readSum_30 ?_
        refine v_getR (kf := 1) (kz := 1) rfl kd_4 rfl ⟨by decide, by decide⟩ rfl wf_1_27 dX1_readSum_31 ?_
        refine v_iconst ⟨by decide, by decide⟩ dX1_readSum_34 ?_
        refine v_cVI (nA := 1) (As := [bI _]) (ix := 105) (cf_X10_wrong (b_wp_b h)) rfl kd_1 rfl rfl wc_X10_wrong wm_1_105 wi_X10_wrong ws_X10_wrong wn_10 ⟨by decide, by decide, by decide⟩ rfl ⟨by decide, by decide⟩ ⟨by decide, by decide⟩ (Nat.le_of_ble_eq_true rfl) dX1_readSum_35 (fun x14 M15 h => ?_)
        replace h := b_wp_two h
        obtain ⟨g16, h⟩ := b_wp_g h
        refine v_zreturn rfl g16 dX1_readSum_38 ⟨by decide, by decide⟩ ?_
        exact ⟨_, rfl, h⟩
    · replace h := b_wp_t c3 h
      refine v_aload_n (f := 0) 0 rfl dX1_readSum_16 ?_
      refine v_getR (kf := 1) (kz := 1) rfl kd_4 rfl ⟨by decide, by decide⟩ rfl wf_1_27 dX1_readSum_17 ?_
      refine v_iconst ⟨by decide, by decide⟩ dX1_readSum_20 ?_
      refine v_cVI (nA := 1) (As := [bI _]) (ix := 105) (cf_X10_wrong (b_wp_b h)) rfl kd_1 rfl rfl wc_X10_wrong wm_1_105 wi_X10_wrong ws_X10_wrong wn_10 ⟨by decide, by decide, by decide⟩ rfl ⟨by decide, by decide⟩ ⟨by decide, by decide⟩ (Nat.le_of_ble_eq_true rfl) dX1_readSum_21 (fun x17 M18 h => ?_)
      replace h := b_wp_two h
      obtain ⟨g19, h⟩ := b_wp_g h
      refine v_zreturn rfl g19 dX1_readSum_24 ⟨by decide, by decide⟩ ?_
      exact ⟨_, rfl, h⟩
theorem l_X1_readSum_2 {l : Launch} {E : bE} {Q : (Int × bM) → Prop} {s : Int × bM} (h : b_wp (b_loop (fun t => F_X1_readSum_s2 t.1 t.2) s) (X_X1_readSum_2 l E Q )) : A_X1_readSum_2 l E Q  s := b_loop_wp (fun t h => t_X1_readSum_s2 h) s h
noncomputable def F_X1_readSum_b110 (M : bM) : Option (Int × bM) :=
  some (0, M)
theorem t_X1_readSum_b110 {l : Launch} {E : bE} {Q : (Int × bM) → Prop} {M : bM} (h : b_wp (F_X1_readSum_b110 M) (Q)) : V l E xX1_readSum (0, 0) 110 [] [] M (b_pI Q) := by
  unfold F_X1_readSum_b110 at h
  refine v_iconst ⟨by decide, by decide⟩ dX1_readSum_110 ?_
  refine v_zreturn rfl (Or.inl rfl) dX1_readSum_111 ⟨by decide, by decide⟩ ?_
  exact ⟨_, rfl, h⟩
noncomputable def F_X1_readSum (M : bM) : Option (Int × bM) :=
  b_bind (b_loop (fun t => F_X1_readSum_s2 t.1 t.2) (0, M)) (Sum.elim (fun t => F_X1_readSum_b110 t) some)
theorem t_X1_readSum {l : Launch} {E : bE} {Q : (Int × bM) → Prop} {M : bM} (h : b_wp (F_X1_readSum M) (Q)) : V l E xX1_readSum (0, 0) 0 [(0, bR 4)] [] M (b_pI Q) := by
  unfold F_X1_readSum at h
  refine v_iconst ⟨by decide, by decide⟩ dX1_readSum_0 ?_
  refine v_istore_n (g := 1) (i := 1) (ls' := [(1, bI _), (0, bR _)]) rfl (by decide) dX1_readSum_1 rfl ?_
  refine v_sub (ls2 := [(0, bR _), (1, bI _)]) [1, 0] rfl ?_
  refine l_X1_readSum_2 (b_wp_m (fun t h => ?_) (b_wp_b h))
  cases t with
  | inr o => exact h
  | inl t =>
    show V l E xX1_readSum (0, 0) 110 [] [] _ (b_pI Q)
    replace h := b_wp_inl h
    exact t_X1_readSum_b110 h
theorem cf_X1_readSum {l : Launch} {E : bE} {M : bM} {Q : (Int × bM) → Prop} (h : b_wp (F_X1_readSum M) Q) : b_C l E xX1_readSum yX1_readSum [bR 4] M (b_pI Q) := b_met (by decide) ⟨rfl, rfl⟩ (Nat.le_of_ble_eq_true rfl) (fun _ _ => t_X1_readSum h)
abbrev xX1_readTest : bX := ("BurntHall$Acts", prog_3_method_14_code, 2, (Option.some Jvm.ClassFile.FieldType.boolean), b_rm 4 0 0, 0, "readTest")
abbrev yX1_readTest : MethodName := ⟨"BurntHall$Acts", "readTest", "()Z"⟩
theorem dX1_readTest_0 : decode prog_3_method_14_code 0 = .ok (.aload_n 0, 1) := by decide +kernel
theorem dX1_readTest_1 : decode prog_3_method_14_code 1 = .ok (.invokevirtual 166, 3) := by decide +kernel
theorem dX1_readTest_4 : decode prog_3_method_14_code 4 = .ok (.ifCond .eq 21, 3) := by decide +kernel
theorem dX1_readTest_7 : decode prog_3_method_14_code 7 = .ok (.aload_n 0, 1) := by decide +kernel
theorem dX1_readTest_8 : decode prog_3_method_14_code 8 = .ok (.getfield 143, 3) := by decide +kernel
theorem dX1_readTest_11 : decode prog_3_method_14_code 11 = .ok (.bipush 12, 2) := by decide +kernel
theorem dX1_readTest_13 : decode prog_3_method_14_code 13 = .ok (.if_icmp .lt 12, 3) := by decide +kernel
theorem dX1_readTest_16 : decode prog_3_method_14_code 16 = .ok (.aload_n 0, 1) := by decide +kernel
theorem dX1_readTest_17 : decode prog_3_method_14_code 17 = .ok (.getfield 27, 3) := by decide +kernel
theorem dX1_readTest_20 : decode prog_3_method_14_code 20 = .ok (.iconst 4, 1) := by decide +kernel
theorem dX1_readTest_21 : decode prog_3_method_14_code 21 = .ok (.invokevirtual 105, 3) := by decide +kernel
theorem dX1_readTest_24 : decode prog_3_method_14_code 24 = .ok (.ireturn, 1) := by decide +kernel
theorem dX1_readTest_25 : decode prog_3_method_14_code 25 = .ok (.aload_n 0, 1) := by decide +kernel
theorem dX1_readTest_26 : decode prog_3_method_14_code 26 = .ok (.dup, 1) := by decide +kernel
theorem dX1_readTest_27 : decode prog_3_method_14_code 27 = .ok (.getfield 143, 3) := by decide +kernel
theorem dX1_readTest_30 : decode prog_3_method_14_code 30 = .ok (.iconst 1, 1) := by decide +kernel
theorem dX1_readTest_31 : decode prog_3_method_14_code 31 = .ok (.iadd, 1) := by decide +kernel
theorem dX1_readTest_32 : decode prog_3_method_14_code 32 = .ok (.putfield 143, 3) := by decide +kernel
theorem dX1_readTest_35 : decode prog_3_method_14_code 35 = .ok (.aload_n 0, 1) := by decide +kernel
theorem dX1_readTest_36 : decode prog_3_method_14_code 36 = .ok (.invokevirtual 169, 3) := by decide +kernel
theorem dX1_readTest_39 : decode prog_3_method_14_code 39 = .ok (.ifCond .ne 5, 3) := by decide +kernel
theorem dX1_readTest_42 : decode prog_3_method_14_code 42 = .ok (.iconst 0, 1) := by decide +kernel
theorem dX1_readTest_43 : decode prog_3_method_14_code 43 = .ok (.ireturn, 1) := by decide +kernel
theorem dX1_readTest_44 : decode prog_3_method_14_code 44 = .ok (.aload_n 0, 1) := by decide +kernel
theorem dX1_readTest_45 : decode prog_3_method_14_code 45 = .ok (.aload_n 0, 1) := by decide +kernel
theorem dX1_readTest_46 : decode prog_3_method_14_code 46 = .ok (.getfield 47, 3) := by decide +kernel
theorem dX1_readTest_49 : decode prog_3_method_14_code 49 = .ok (.invokevirtual 89, 3) := by decide +kernel
theorem dX1_readTest_52 : decode prog_3_method_14_code 52 = .ok (.istore_n 1, 1) := by decide +kernel
theorem dX1_readTest_53 : decode prog_3_method_14_code 53 = .ok (.iload_n 1, 1) := by decide +kernel
theorem dX1_readTest_54 : decode prog_3_method_14_code 54 = .ok (.iconst 2, 1) := by decide +kernel
theorem dX1_readTest_55 : decode prog_3_method_14_code 55 = .ok (.if_icmp .le 9, 3) := by decide +kernel
theorem dX1_readTest_58 : decode prog_3_method_14_code 58 = .ok (.iload_n 1, 1) := by decide +kernel
theorem dX1_readTest_59 : decode prog_3_method_14_code 59 = .ok (.bipush 6, 2) := by decide +kernel
theorem dX1_readTest_61 : decode prog_3_method_14_code 61 = .ok (.if_icmp .lt 12, 3) := by decide +kernel
theorem dX1_readTest_64 : decode prog_3_method_14_code 64 = .ok (.aload_n 0, 1) := by decide +kernel
theorem dX1_readTest_65 : decode prog_3_method_14_code 65 = .ok (.bipush 9, 2) := by decide +kernel
theorem dX1_readTest_67 : decode prog_3_method_14_code 67 = .ok (.lconst 0, 1) := by decide +kernel
theorem dX1_readTest_68 : decode prog_3_method_14_code 68 = .ok (.invokevirtual 162, 3) := by decide +kernel
theorem dX1_readTest_71 : decode prog_3_method_14_code 71 = .ok (.iconst 1, 1) := by decide +kernel
theorem dX1_readTest_72 : decode prog_3_method_14_code 72 = .ok (.ireturn, 1) := by decide +kernel
theorem dX1_readTest_73 : decode prog_3_method_14_code 73 = .ok (.aload_n 0, 1) := by decide +kernel
theorem dX1_readTest_74 : decode prog_3_method_14_code 74 = .ok (.getfield 27, 3) := by decide +kernel
theorem dX1_readTest_77 : decode prog_3_method_14_code 77 = .ok (.invokevirtual 108, 3) := by decide +kernel
theorem dX1_readTest_80 : decode prog_3_method_14_code 80 = .ok (.aload_n 0, 1) := by decide +kernel
theorem dX1_readTest_81 : decode prog_3_method_14_code 81 = .ok (.invokevirtual 169, 3) := by decide +kernel
theorem dX1_readTest_84 : decode prog_3_method_14_code 84 = .ok (.ifCond .ne 5, 3) := by decide +kernel
theorem dX1_readTest_87 : decode prog_3_method_14_code 87 = .ok (.iconst 0, 1) := by decide +kernel
theorem dX1_readTest_88 : decode prog_3_method_14_code 88 = .ok (.ireturn, 1) := by decide +kernel
theorem dX1_readTest_89 : decode prog_3_method_14_code 89 = .ok (.aload_n 0, 1) := by decide +kernel
theorem dX1_readTest_90 : decode prog_3_method_14_code 90 = .ok (.iload_n 1, 1) := by decide +kernel
theorem dX1_readTest_91 : decode prog_3_method_14_code 91 = .ok (.lconst 0, 1) := by decide +kernel
theorem dX1_readTest_92 : decode prog_3_method_14_code 92 = .ok (.invokevirtual 162, 3) := by decide +kernel
theorem dX1_readTest_95 : decode prog_3_method_14_code 95 = .ok (.iconst 1, 1) := by decide +kernel
theorem dX1_readTest_96 : decode prog_3_method_14_code 96 = .ok (.ireturn, 1) := by decide +kernel
noncomputable def F_X1_readTest_b64 (M : bM) : Option (Int × bM) :=
  b_bind (F_X1_emit 9 0 M) (fun M10 => some (1, M10))
theorem t_X1_readTest_b64 {l : Launch} {E : bE} {Q : (Int × bM) → Prop} {M : bM} (h : b_wp (F_X1_readTest_b64 M) (Q)) : V l E xX1_readTest (0, 0) 64 [(0, bR 4)] [] M (b_pI Q) := by
  unfold F_X1_readTest_b64 at h
  refine v_aload_n (f := 0) 0 rfl dX1_readTest_64 ?_
  refine v_bipush ⟨by decide, by decide⟩ (by decide) dX1_readTest_65 ?_
  refine v_lconst0 dX1_readTest_67 ?_
  refine v_cVV (nA := 2) (As := [bI _, bJ _]) (ix := 162) (cf_X1_emit (b_wp_b h)) rfl kd_4 rfl rfl wc_X1_emit wm_1_162 wi_X1_emit ws_X1_emit wn_1 ⟨by decide, by decide, by decide⟩ rfl ⟨by decide, by decide⟩ ⟨by decide, by decide⟩ (Nat.le_of_ble_eq_true rfl) dX1_readTest_68 (fun M10 h => ?_)
  refine v_iconst ⟨by decide, by decide⟩ dX1_readTest_71 ?_
  refine v_zreturn rfl (Or.inr rfl) dX1_readTest_72 ⟨by decide, by decide⟩ ?_
  exact ⟨_, rfl, h⟩
noncomputable def F_X1_readTest_b25 (M : bM) : Option (Int × bM) :=
  b_g (b_i32 ((M 4 11) + 1)) (b_let (b_up M 4 11 ((M 4 11) + 1)) (fun M4 => b_bind (F_X1_readSum M4) (fun t => b_two t (fun x5 M6 => if x5 = 0 then (some (0, M6)) else (b_bind (F_X1_placeOf_106 M6) (fun x8 => if x8 ≤ 2 then (F_X1_readTest_b64 M6) else (if x8 < 6 then (b_bind (F_X10_step M6) (fun M12 => b_bind (F_X1_readSum M12) (fun t => b_two t (fun x13 M14 => if x13 = 0 then (some (0, M14)) else (b_bind (F_X1_emit x8 0 M14) (fun M16 => some (1, M16))))))) else (F_X1_readTest_b64 M6))))))))
theorem t_X1_readTest_b25 {l : Launch} {E : bE} {Q : (Int × bM) → Prop} {M : bM} (h : b_wp (F_X1_readTest_b25 M) (Q)) : V l E xX1_readTest (0, 0) 25 [(0, bR 4)] [] M (b_pI Q) := by
  unfold F_X1_readTest_b25 at h
  obtain ⟨g3, h⟩ := b_wp_g h
  refine v_aload_n (f := 0) 0 rfl dX1_readTest_25 ?_
  refine v_dup rfl dX1_readTest_26 ?_
  refine v_getI (kf := 11) (kz := 11) rfl kd_4 rfl ⟨by decide, by decide⟩ rfl wf_1_143 dX1_readTest_27 ?_
  refine v_iconst ⟨by decide, by decide⟩ dX1_readTest_30 ?_
  refine v_iaddN g3 dX1_readTest_31 ?_
  refine v_putI (kf := 11) (kz := 11) rfl kd_4 rfl ⟨by decide, by decide⟩ rfl wf_1_143 rfl rfl dX1_readTest_32 ?_
  replace h := b_wp_l h
  refine v_aload_n (f := 0) 0 rfl dX1_readTest_35 ?_
  refine v_cVI (nA := 0) (As := []) (ix := 169) (cf_X1_readSum (b_wp_b h)) rfl kd_4 rfl rfl wc_X1_readSum wm_1_169 wi_X1_readSum ws_X1_readSum wn_1 ⟨by decide, by decide, by decide⟩ rfl ⟨by decide, by decide⟩ ⟨by decide, by decide⟩ (Nat.le_of_ble_eq_true rfl) dX1_readTest_36 (fun x5 M6 h => ?_)
  replace h := b_wp_two h
  refine v_if_ne (tgt := 44) dX1_readTest_39 (by decide) (fun c7 => ?_) (fun c7 => ?_)
  · replace h := b_wp_f c7 h
    refine v_aload_n (f := 0) 0 rfl dX1_readTest_44 ?_
    refine v_aload_n (f := 0) 0 rfl dX1_readTest_45 ?_
    refine v_getR (kf := 4) (kz := 4) rfl kd_4 rfl ⟨by decide, by decide⟩ rfl wf_1_47 dX1_readTest_46 ?_
    refine v_cVIp (nA := 1) (As := [bR _]) (ix := 89) (cf_X1_placeOf_106 (b_wp_b h)) rfl kd_4 rfl rfl wc_X1_placeOf wm_1_89 wi_X1_placeOf ws_X1_placeOf wn_1 ⟨by decide, by decide, by decide⟩ rfl ⟨by decide, by decide⟩ ⟨by decide, by decide⟩ (Nat.le_of_ble_eq_true rfl) dX1_readTest_49 (fun x8 h => ?_)
    refine v_istore_n (g := 1) (i := 1) (ls' := [(1, bI _), (0, bR _)]) rfl (by decide) dX1_readTest_52 rfl ?_
    refine v_iload_n (f := 1) 0 rfl dX1_readTest_53 ?_
    refine v_iconst ⟨by decide, by decide⟩ dX1_readTest_54 ?_
    refine v_icmp_le (tgt := 64) dX1_readTest_55 (by decide) (fun c9 => ?_) (fun c9 => ?_)
    · replace h := b_wp_t c9 h
      refine v_sub (ls2 := [(0, bR _)]) [1] rfl ?_
      exact t_X1_readTest_b64 h
    · replace h := b_wp_f c9 h
      refine v_iload_n (f := 1) 0 rfl dX1_readTest_58 ?_
      refine v_bipush ⟨by decide, by decide⟩ (by decide) dX1_readTest_59 ?_
      refine v_icmp_lt (tgt := 73) dX1_readTest_61 (by decide) (fun c11 => ?_) (fun c11 => ?_)
      · replace h := b_wp_t c11 h
        refine v_aload_n (f := 0) 1 rfl dX1_readTest_73 ?_
        refine v_getR (kf := 1) (kz := 1) rfl kd_4 rfl ⟨by decide, by decide⟩ rfl wf_1_27 dX1_readTest_74 ?_
        refine v_cVV (nA := 0) (As := []) (ix := 108) (cf_X10_step (b_wp_b h)) rfl kd_1 rfl rfl wc_X10_step wm_1_108 wi_X10_step ws_X10_step wn_10 ⟨by decide, by decide, by decide⟩ rfl ⟨by decide, by decide⟩ ⟨by decide, by decide⟩ (Nat.le_of_ble_eq_true rfl) dX1_readTest_77 (fun M12 h => ?_)
        refine v_aload_n (f := 0) 1 rfl dX1_readTest_80 ?_
        refine v_cVI (nA := 0) (As := []) (ix := 169) (cf_X1_readSum (b_wp_b h)) rfl kd_4 rfl rfl wc_X1_readSum wm_1_169 wi_X1_readSum ws_X1_readSum wn_1 ⟨by decide, by decide, by decide⟩ rfl ⟨by decide, by decide⟩ ⟨by decide, by decide⟩ (Nat.le_of_ble_eq_true rfl) dX1_readTest_81 (fun x13 M14 h => ?_)
        replace h := b_wp_two h
        refine v_if_ne (tgt := 89) dX1_readTest_84 (by decide) (fun c15 => ?_) (fun c15 => ?_)
        · replace h := b_wp_f c15 h
          refine v_aload_n (f := 0) 1 rfl dX1_readTest_89 ?_
          refine v_iload_n (f := 1) 0 rfl dX1_readTest_90 ?_
          refine v_lconst0 dX1_readTest_91 ?_
          refine v_cVV (nA := 2) (As := [bI _, bJ _]) (ix := 162) (cf_X1_emit (b_wp_b h)) rfl kd_4 rfl rfl wc_X1_emit wm_1_162 wi_X1_emit ws_X1_emit wn_1 ⟨by decide, by decide, by decide⟩ rfl ⟨by decide, by decide⟩ ⟨by decide, by decide⟩ (Nat.le_of_ble_eq_true rfl) dX1_readTest_92 (fun M16 h => ?_)
          refine v_iconst ⟨by decide, by decide⟩ dX1_readTest_95 ?_
          refine v_zreturn rfl (Or.inr rfl) dX1_readTest_96 ⟨by decide, by decide⟩ ?_
          exact ⟨_, rfl, h⟩
        · replace h := b_wp_t c15 h
          refine v_iconst ⟨by decide, by decide⟩ dX1_readTest_87 ?_
          refine v_zreturn rfl (Or.inl rfl) dX1_readTest_88 ⟨by decide, by decide⟩ ?_
          exact ⟨_, rfl, h⟩
      · replace h := b_wp_f c11 h
        refine v_sub (ls2 := [(0, bR _)]) [1] rfl ?_
        exact t_X1_readTest_b64 h
  · replace h := b_wp_t c7 h
    refine v_iconst ⟨by decide, by decide⟩ dX1_readTest_42 ?_
    refine v_zreturn rfl (Or.inl rfl) dX1_readTest_43 ⟨by decide, by decide⟩ ?_
    exact ⟨_, rfl, h⟩
noncomputable def F_X1_readTest (M : bM) : Option (Int × bM) :=
  b_bind (F_X1_isTerm M) (fun x1 => if x1 = 0 then (F_X1_readTest_b25 M) else (if (M 4 11) < 12 then (F_X1_readTest_b25 M) else (b_bind (F_X10_wrong 4 M) (fun t => b_two t (fun x18 M19 => b_g (x18 = 0 ∨ x18 = 1) (some (x18, M19)))))))
theorem t_X1_readTest {l : Launch} {E : bE} {Q : (Int × bM) → Prop} {M : bM} (h : b_wp (F_X1_readTest M) (Q)) : V l E xX1_readTest (0, 0) 0 [(0, bR 4)] [] M (b_pI Q) := by
  unfold F_X1_readTest at h
  refine v_aload_n (f := 0) 0 rfl dX1_readTest_0 ?_
  refine v_cVIp (nA := 0) (As := []) (ix := 166) (cf_X1_isTerm (b_wp_b h)) rfl kd_4 rfl rfl wc_X1_isTerm wm_1_166 wi_X1_isTerm ws_X1_isTerm wn_1 ⟨by decide, by decide, by decide⟩ rfl ⟨by decide, by decide⟩ ⟨by decide, by decide⟩ (Nat.le_of_ble_eq_true rfl) dX1_readTest_1 (fun x1 h => ?_)
  refine v_if_eq (tgt := 25) dX1_readTest_4 (by decide) (fun c2 => ?_) (fun c2 => ?_)
  · replace h := b_wp_t c2 h
    exact t_X1_readTest_b25 h
  · replace h := b_wp_f c2 h
    refine v_aload_n (f := 0) 0 rfl dX1_readTest_7 ?_
    refine v_getI (kf := 11) (kz := 11) rfl kd_4 rfl ⟨by decide, by decide⟩ rfl wf_1_143 dX1_readTest_8 ?_
    refine v_bipush ⟨by decide, by decide⟩ (by decide) dX1_readTest_11 ?_
    refine v_icmp_lt (tgt := 25) dX1_readTest_13 (by decide) (fun c17 => ?_) (fun c17 => ?_)
    · replace h := b_wp_t c17 h
      exact t_X1_readTest_b25 h
    · replace h := b_wp_f c17 h
      refine v_aload_n (f := 0) 0 rfl dX1_readTest_16 ?_
      refine v_getR (kf := 1) (kz := 1) rfl kd_4 rfl ⟨by decide, by decide⟩ rfl wf_1_27 dX1_readTest_17 ?_
      refine v_iconst ⟨by decide, by decide⟩ dX1_readTest_20 ?_
      refine v_cVI (nA := 1) (As := [bI _]) (ix := 105) (cf_X10_wrong (b_wp_b h)) rfl kd_1 rfl rfl wc_X10_wrong wm_1_105 wi_X10_wrong ws_X10_wrong wn_10 ⟨by decide, by decide, by decide⟩ rfl ⟨by decide, by decide⟩ ⟨by decide, by decide⟩ (Nat.le_of_ble_eq_true rfl) dX1_readTest_21 (fun x18 M19 h => ?_)
      replace h := b_wp_two h
      obtain ⟨g20, h⟩ := b_wp_g h
      refine v_zreturn rfl g20 dX1_readTest_24 ⟨by decide, by decide⟩ ?_
      exact ⟨_, rfl, h⟩
theorem cf_X1_readTest {l : Launch} {E : bE} {M : bM} {Q : (Int × bM) → Prop} (h : b_wp (F_X1_readTest M) Q) : b_C l E xX1_readTest yX1_readTest [bR 4] M (b_pI Q) := b_met (by decide) ⟨rfl, rfl⟩ (Nat.le_of_ble_eq_true rfl) (fun _ _ => t_X1_readTest h)
abbrev xX1_settleOne : bX := ("BurntHall$Acts", prog_3_method_12_code, 2, (Option.none : Option Jvm.ClassFile.FieldType), b_rm 2 0 0, 0, "settleOne")
abbrev yX1_settleOne : MethodName := ⟨"BurntHall$Acts", "settleOne", "(I)V"⟩
theorem dX1_settleOne_0 : decode prog_3_method_12_code 0 = .ok (.aload_n 0, 1) := by decide +kernel
theorem dX1_settleOne_1 : decode prog_3_method_12_code 1 = .ok (.getfield 23, 3) := by decide +kernel
theorem dX1_settleOne_4 : decode prog_3_method_12_code 4 = .ok (.iload_n 1, 1) := by decide +kernel
theorem dX1_settleOne_5 : decode prog_3_method_12_code 5 = .ok (.iaload, 1) := by decide +kernel
theorem dX1_settleOne_6 : decode prog_3_method_12_code 6 = .ok (.iconst 1, 1) := by decide +kernel
theorem dX1_settleOne_7 : decode prog_3_method_12_code 7 = .ok (.iand, 1) := by decide +kernel
theorem dX1_settleOne_8 : decode prog_3_method_12_code 8 = .ok (.ifCond .eq 10, 3) := by decide +kernel
theorem dX1_settleOne_11 : decode prog_3_method_12_code 11 = .ok (.aload_n 0, 1) := by decide +kernel
theorem dX1_settleOne_12 : decode prog_3_method_12_code 12 = .ok (.bipush 8, 2) := by decide +kernel
theorem dX1_settleOne_14 : decode prog_3_method_12_code 14 = .ok (.lconst 0, 1) := by decide +kernel
theorem dX1_settleOne_15 : decode prog_3_method_12_code 15 = .ok (.invokevirtual 162, 3) := by decide +kernel
theorem dX1_settleOne_18 : decode prog_3_method_12_code 18 = .ok (.aload_n 0, 1) := by decide +kernel
theorem dX1_settleOne_19 : decode prog_3_method_12_code 19 = .ok (.getfield 23, 3) := by decide +kernel
theorem dX1_settleOne_22 : decode prog_3_method_12_code 22 = .ok (.iload_n 1, 1) := by decide +kernel
theorem dX1_settleOne_23 : decode prog_3_method_12_code 23 = .ok (.iaload, 1) := by decide +kernel
theorem dX1_settleOne_24 : decode prog_3_method_12_code 24 = .ok (.iconst 2, 1) := by decide +kernel
theorem dX1_settleOne_25 : decode prog_3_method_12_code 25 = .ok (.iand, 1) := by decide +kernel
theorem dX1_settleOne_26 : decode prog_3_method_12_code 26 = .ok (.ifCond .eq 10, 3) := by decide +kernel
theorem dX1_settleOne_29 : decode prog_3_method_12_code 29 = .ok (.aload_n 0, 1) := by decide +kernel
theorem dX1_settleOne_30 : decode prog_3_method_12_code 30 = .ok (.bipush 6, 2) := by decide +kernel
theorem dX1_settleOne_32 : decode prog_3_method_12_code 32 = .ok (.lconst 0, 1) := by decide +kernel
theorem dX1_settleOne_33 : decode prog_3_method_12_code 33 = .ok (.invokevirtual 162, 3) := by decide +kernel
theorem dX1_settleOne_36 : decode prog_3_method_12_code 36 = .ok (.aload_n 0, 1) := by decide +kernel
theorem dX1_settleOne_37 : decode prog_3_method_12_code 37 = .ok (.getfield 23, 3) := by decide +kernel
theorem dX1_settleOne_40 : decode prog_3_method_12_code 40 = .ok (.iload_n 1, 1) := by decide +kernel
theorem dX1_settleOne_41 : decode prog_3_method_12_code 41 = .ok (.dup2, 1) := by decide +kernel
theorem dX1_settleOne_42 : decode prog_3_method_12_code 42 = .ok (.iaload, 1) := by decide +kernel
theorem dX1_settleOne_43 : decode prog_3_method_12_code 43 = .ok (.iconst 4, 1) := by decide +kernel
theorem dX1_settleOne_44 : decode prog_3_method_12_code 44 = .ok (.iand, 1) := by decide +kernel
theorem dX1_settleOne_45 : decode prog_3_method_12_code 45 = .ok (.iastore, 1) := by decide +kernel
theorem dX1_settleOne_46 : decode prog_3_method_12_code 46 = .ok (.return_, 1) := by decide +kernel
noncomputable def F_X1_settleOne_b36 (v1 : Int) (M : bM) : Option (bM) :=
  b_g (0 ≤ v1 ∧ v1 < 6) (b_let (b_up M 109 v1 (i_and (M 109 v1) 4)) (fun M6 => some M6))
theorem t_X1_settleOne_b36 {l : Launch} {E : bE} {Q : bM → Prop} {v1 : Int} {M : bM} (h : b_wp (F_X1_settleOne_b36 v1 M) (Q)) : V l E xX1_settleOne (0, 0) 36 [(0, bR 4), (1, bI v1)] [] M (b_pV Q) := by
  unfold F_X1_settleOne_b36 at h
  obtain ⟨g5, h⟩ := b_wp_g h
  refine v_aload_n (f := 0) 0 rfl dX1_settleOne_36 ?_
  refine v_getR (kf := 7) (kz := 7) rfl kd_4 rfl ⟨by decide, by decide⟩ rfl wf_1_23 dX1_settleOne_37 ?_
  refine v_iload_n (f := 1) 1 rfl dX1_settleOne_40 ?_
  refine v_dup2 rfl rfl dX1_settleOne_41 ?_
  refine v_iaload kd_109 g5 (by decide) dX1_settleOne_42 ?_
  refine v_iconst ⟨by decide, by decide⟩ dX1_settleOne_43 ?_
  refine v_iand (v := i_and _ _) rfl dX1_settleOne_44 ?_
  refine v_iastore kd_109 g5 (by decide) dX1_settleOne_45 ?_
  replace h := b_wp_l h
  refine v_return rfl dX1_settleOne_46 ⟨by decide, by decide⟩ ?_
  exact ⟨rfl, h⟩
noncomputable def F_X1_settleOne_b18 (v1 : Int) (M : bM) : Option (bM) :=
  b_g (0 ≤ v1 ∧ v1 < 6) (if (i_and (M 109 v1) 2) = 0 then (F_X1_settleOne_b36 v1 M) else (b_bind (F_X1_emit 6 0 M) (fun M7 => F_X1_settleOne_b36 v1 M7)))
theorem t_X1_settleOne_b18 {l : Launch} {E : bE} {Q : bM → Prop} {v1 : Int} {M : bM} (h : b_wp (F_X1_settleOne_b18 v1 M) (Q)) : V l E xX1_settleOne (0, 0) 18 [(0, bR 4), (1, bI v1)] [] M (b_pV Q) := by
  unfold F_X1_settleOne_b18 at h
  obtain ⟨g3, h⟩ := b_wp_g h
  refine v_aload_n (f := 0) 0 rfl dX1_settleOne_18 ?_
  refine v_getR (kf := 7) (kz := 7) rfl kd_4 rfl ⟨by decide, by decide⟩ rfl wf_1_23 dX1_settleOne_19 ?_
  refine v_iload_n (f := 1) 1 rfl dX1_settleOne_22 ?_
  refine v_iaload kd_109 g3 (by decide) dX1_settleOne_23 ?_
  refine v_iconst ⟨by decide, by decide⟩ dX1_settleOne_24 ?_
  refine v_iand (v := i_and _ _) rfl dX1_settleOne_25 ?_
  refine v_if_eq (tgt := 36) dX1_settleOne_26 (by decide) (fun c4 => ?_) (fun c4 => ?_)
  · replace h := b_wp_t c4 h
    exact t_X1_settleOne_b36 h
  · replace h := b_wp_f c4 h
    refine v_aload_n (f := 0) 0 rfl dX1_settleOne_29 ?_
    refine v_bipush ⟨by decide, by decide⟩ (by decide) dX1_settleOne_30 ?_
    refine v_lconst0 dX1_settleOne_32 ?_
    refine v_cVV (nA := 2) (As := [bI _, bJ _]) (ix := 162) (cf_X1_emit (b_wp_b h)) rfl kd_4 rfl rfl wc_X1_emit wm_1_162 wi_X1_emit ws_X1_emit wn_1 ⟨by decide, by decide, by decide⟩ rfl ⟨by decide, by decide⟩ ⟨by decide, by decide⟩ (Nat.le_of_ble_eq_true rfl) dX1_settleOne_33 (fun M7 h => ?_)
    exact t_X1_settleOne_b36 h
noncomputable def F_X1_settleOne (v1 : Int) (M : bM) : Option (bM) :=
  b_g (0 ≤ v1 ∧ v1 < 6) (if (i_and (M 109 v1) 1) = 0 then (F_X1_settleOne_b18 v1 M) else (b_bind (F_X1_emit 8 0 M) (fun M8 => F_X1_settleOne_b18 v1 M8)))
theorem t_X1_settleOne {l : Launch} {E : bE} {Q : bM → Prop} {v1 : Int} {M : bM} (h : b_wp (F_X1_settleOne v1 M) (Q)) : V l E xX1_settleOne (0, 0) 0 [(0, bR 4), (1, bI v1)] [] M (b_pV Q) := by
  unfold F_X1_settleOne at h
  obtain ⟨g1, h⟩ := b_wp_g h
  refine v_aload_n (f := 0) 0 rfl dX1_settleOne_0 ?_
  refine v_getR (kf := 7) (kz := 7) rfl kd_4 rfl ⟨by decide, by decide⟩ rfl wf_1_23 dX1_settleOne_1 ?_
  refine v_iload_n (f := 1) 1 rfl dX1_settleOne_4 ?_
  refine v_iaload kd_109 g1 (by decide) dX1_settleOne_5 ?_
  refine v_iconst ⟨by decide, by decide⟩ dX1_settleOne_6 ?_
  refine v_iand (v := i_and _ _) rfl dX1_settleOne_7 ?_
  refine v_if_eq (tgt := 18) dX1_settleOne_8 (by decide) (fun c2 => ?_) (fun c2 => ?_)
  · replace h := b_wp_t c2 h
    exact t_X1_settleOne_b18 h
  · replace h := b_wp_f c2 h
    refine v_aload_n (f := 0) 0 rfl dX1_settleOne_11 ?_
    refine v_bipush ⟨by decide, by decide⟩ (by decide) dX1_settleOne_12 ?_
    refine v_lconst0 dX1_settleOne_14 ?_
    refine v_cVV (nA := 2) (As := [bI _, bJ _]) (ix := 162) (cf_X1_emit (b_wp_b h)) rfl kd_4 rfl rfl wc_X1_emit wm_1_162 wi_X1_emit ws_X1_emit wn_1 ⟨by decide, by decide, by decide⟩ rfl ⟨by decide, by decide⟩ ⟨by decide, by decide⟩ (Nat.le_of_ble_eq_true rfl) dX1_settleOne_15 (fun M8 h => ?_)
    exact t_X1_settleOne_b18 h
theorem cf_X1_settleOne {l : Launch} {E : bE} {M : bM} {v1 : Int} {Q : bM → Prop} (h : b_wp (F_X1_settleOne v1 M) Q) : b_C l E xX1_settleOne yX1_settleOne [bR 4, bI v1] M (b_pV Q) := b_met (by decide) ⟨rfl, rfl⟩ (Nat.le_of_ble_eq_true rfl) (fun _ _ => t_X1_settleOne h)
abbrev xX1_settleAll : bX := ("BurntHall$Acts", prog_3_method_13_code, 2, (Option.none : Option Jvm.ClassFile.FieldType), b_rm 2 0 0, 0, "settleAll")
abbrev yX1_settleAll : MethodName := ⟨"BurntHall$Acts", "settleAll", "(I)V"⟩
theorem dX1_settleAll_0 : decode prog_3_method_13_code 0 = .ok (.aload_n 0, 1) := by decide +kernel
theorem dX1_settleAll_1 : decode prog_3_method_13_code 1 = .ok (.getfield 23, 3) := by decide +kernel
theorem dX1_settleAll_4 : decode prog_3_method_13_code 4 = .ok (.iload_n 1, 1) := by decide +kernel
theorem dX1_settleAll_5 : decode prog_3_method_13_code 5 = .ok (.iaload, 1) := by decide +kernel
theorem dX1_settleAll_6 : decode prog_3_method_13_code 6 = .ok (.iconst 4, 1) := by decide +kernel
theorem dX1_settleAll_7 : decode prog_3_method_13_code 7 = .ok (.iand, 1) := by decide +kernel
theorem dX1_settleAll_8 : decode prog_3_method_13_code 8 = .ok (.ifCond .eq 10, 3) := by decide +kernel
theorem dX1_settleAll_11 : decode prog_3_method_13_code 11 = .ok (.aload_n 0, 1) := by decide +kernel
theorem dX1_settleAll_12 : decode prog_3_method_13_code 12 = .ok (.bipush 7, 2) := by decide +kernel
theorem dX1_settleAll_14 : decode prog_3_method_13_code 14 = .ok (.lconst 0, 1) := by decide +kernel
theorem dX1_settleAll_15 : decode prog_3_method_13_code 15 = .ok (.invokevirtual 162, 3) := by decide +kernel
theorem dX1_settleAll_18 : decode prog_3_method_13_code 18 = .ok (.return_, 1) := by decide +kernel
noncomputable def F_X1_settleAll (v1 : Int) (M : bM) : Option (bM) :=
  b_g (0 ≤ v1 ∧ v1 < 6) (if (i_and (M 109 v1) 4) = 0 then (some M) else (b_bind (F_X1_emit 7 0 M) (fun M3 => some M3)))
theorem t_X1_settleAll {l : Launch} {E : bE} {Q : bM → Prop} {v1 : Int} {M : bM} (h : b_wp (F_X1_settleAll v1 M) (Q)) : V l E xX1_settleAll (0, 0) 0 [(0, bR 4), (1, bI v1)] [] M (b_pV Q) := by
  unfold F_X1_settleAll at h
  obtain ⟨g1, h⟩ := b_wp_g h
  refine v_aload_n (f := 0) 0 rfl dX1_settleAll_0 ?_
  refine v_getR (kf := 7) (kz := 7) rfl kd_4 rfl ⟨by decide, by decide⟩ rfl wf_1_23 dX1_settleAll_1 ?_
  refine v_iload_n (f := 1) 1 rfl dX1_settleAll_4 ?_
  refine v_iaload kd_109 g1 (by decide) dX1_settleAll_5 ?_
  refine v_iconst ⟨by decide, by decide⟩ dX1_settleAll_6 ?_
  refine v_iand (v := i_and _ _) rfl dX1_settleAll_7 ?_
  refine v_if_eq (tgt := 18) dX1_settleAll_8 (by decide) (fun c2 => ?_) (fun c2 => ?_)
  · replace h := b_wp_t c2 h
    refine v_return rfl dX1_settleAll_18 ⟨by decide, by decide⟩ ?_
    exact ⟨rfl, h⟩
  · replace h := b_wp_f c2 h
    refine v_aload_n (f := 0) 0 rfl dX1_settleAll_11 ?_
    refine v_bipush ⟨by decide, by decide⟩ (by decide) dX1_settleAll_12 ?_
    refine v_lconst0 dX1_settleAll_14 ?_
    refine v_cVV (nA := 2) (As := [bI _, bJ _]) (ix := 162) (cf_X1_emit (b_wp_b h)) rfl kd_4 rfl rfl wc_X1_emit wm_1_162 wi_X1_emit ws_X1_emit wn_1 ⟨by decide, by decide, by decide⟩ rfl ⟨by decide, by decide⟩ ⟨by decide, by decide⟩ (Nat.le_of_ble_eq_true rfl) dX1_settleAll_15 (fun M3 h => ?_)
    refine v_return rfl dX1_settleAll_18 ⟨by decide, by decide⟩ ?_
    exact ⟨rfl, h⟩
theorem cf_X1_settleAll {l : Launch} {E : bE} {M : bM} {v1 : Int} {Q : bM → Prop} (h : b_wp (F_X1_settleAll v1 M) Q) : b_C l E xX1_settleAll yX1_settleAll [bR 4, bI v1] M (b_pV Q) := b_met (by decide) ⟨rfl, rfl⟩ (Nat.le_of_ble_eq_true rfl) (fun _ _ => t_X1_settleAll h)
abbrev xX1_closeLevels : bX := ("BurntHall$Acts", prog_3_method_10_code, 4, (Option.some Jvm.ClassFile.FieldType.int), b_rm 3 0 0, 0, "closeLevels")
abbrev yX1_closeLevels : MethodName := ⟨"BurntHall$Acts", "closeLevels", "(I)I"⟩
theorem dX1_closeLevels_0 : decode prog_3_method_10_code 0 = .ok (.iload_n 1, 1) := by decide +kernel
theorem dX1_closeLevels_1 : decode prog_3_method_10_code 1 = .ok (.istore_n 2, 1) := by decide +kernel
theorem dX1_closeLevels_2 : decode prog_3_method_10_code 2 = .ok (.aload_n 0, 1) := by decide +kernel
theorem dX1_closeLevels_3 : decode prog_3_method_10_code 3 = .ok (.iload_n 2, 1) := by decide +kernel
theorem dX1_closeLevels_4 : decode prog_3_method_10_code 4 = .ok (.invokevirtual 159, 3) := by decide +kernel
theorem dX1_closeLevels_7 : decode prog_3_method_10_code 7 = .ok (.iconst 0, 1) := by decide +kernel
theorem dX1_closeLevels_8 : decode prog_3_method_10_code 8 = .ok (.istore_n 3, 1) := by decide +kernel
theorem dX1_closeLevels_9 : decode prog_3_method_10_code 9 = .ok (.iload_n 3, 1) := by decide +kernel
theorem dX1_closeLevels_10 : decode prog_3_method_10_code 10 = .ok (.iconst 5, 1) := by decide +kernel
theorem dX1_closeLevels_11 : decode prog_3_method_10_code 11 = .ok (.if_icmp .ge 45, 3) := by decide +kernel
theorem dX1_closeLevels_14 : decode prog_3_method_10_code 14 = .ok (.iload_n 2, 1) := by decide +kernel
theorem dX1_closeLevels_15 : decode prog_3_method_10_code 15 = .ok (.ifCond .le 41, 3) := by decide +kernel
theorem dX1_closeLevels_18 : decode prog_3_method_10_code 18 = .ok (.aload_n 0, 1) := by decide +kernel
theorem dX1_closeLevels_19 : decode prog_3_method_10_code 19 = .ok (.getfield 27, 3) := by decide +kernel
theorem dX1_closeLevels_22 : decode prog_3_method_10_code 22 = .ok (.bipush 41, 2) := by decide +kernel
theorem dX1_closeLevels_24 : decode prog_3_method_10_code 24 = .ok (.invokevirtual 101, 3) := by decide +kernel
theorem dX1_closeLevels_27 : decode prog_3_method_10_code 27 = .ok (.ifCond .eq 29, 3) := by decide +kernel
theorem dX1_closeLevels_30 : decode prog_3_method_10_code 30 = .ok (.aload_n 0, 1) := by decide +kernel
theorem dX1_closeLevels_31 : decode prog_3_method_10_code 31 = .ok (.iload_n 2, 1) := by decide +kernel
theorem dX1_closeLevels_32 : decode prog_3_method_10_code 32 = .ok (.invokevirtual 155, 3) := by decide +kernel
theorem dX1_closeLevels_35 : decode prog_3_method_10_code 35 = .ok (.iinc 2 (-1), 3) := by decide +kernel
theorem dX1_closeLevels_38 : decode prog_3_method_10_code 38 = .ok (.aload_n 0, 1) := by decide +kernel
theorem dX1_closeLevels_39 : decode prog_3_method_10_code 39 = .ok (.iload_n 2, 1) := by decide +kernel
theorem dX1_closeLevels_40 : decode prog_3_method_10_code 40 = .ok (.invokevirtual 159, 3) := by decide +kernel
theorem dX1_closeLevels_43 : decode prog_3_method_10_code 43 = .ok (.aload_n 0, 1) := by decide +kernel
theorem dX1_closeLevels_44 : decode prog_3_method_10_code 44 = .ok (.getfield 27, 3) := by decide +kernel
theorem dX1_closeLevels_47 : decode prog_3_method_10_code 47 = .ok (.invokevirtual 108, 3) := by decide +kernel
theorem dX1_closeLevels_50 : decode prog_3_method_10_code 50 = .ok (.iinc 3 1, 3) := by decide +kernel
theorem dX1_closeLevels_53 : decode prog_3_method_10_code 53 = .ok (.goto (-44), 3) := by decide +kernel
theorem dX1_closeLevels_56 : decode prog_3_method_10_code 56 = .ok (.iload_n 2, 1) := by decide +kernel
theorem dX1_closeLevels_57 : decode prog_3_method_10_code 57 = .ok (.ireturn, 1) := by decide +kernel
abbrev A_X1_closeLevels_9 (l : Launch) (E : bE) (Q : (Int × bM) → Prop) : (Int × Int × bM) → Prop := (fun t : Int × Int × bM => V l E xX1_closeLevels (0, 0) 9 [(0, bR 4), (2, bI (t.1)), (3, bI (t.2.1))] [] t.2.2 (b_pI Q))
abbrev X_X1_closeLevels_9 (l : Launch) (E : bE) (Q : (Int × bM) → Prop) : (Int × bM) → Prop := (fun t : Int × bM => V l E xX1_closeLevels (0, 0) 56 [(2, bI (t.1))] [] t.2 (b_pI Q))
noncomputable def F_X1_closeLevels_s9 (v2 : Int) (v3 : Int) (M : bM) : Option ((Int × Int × bM) ⊕ (Int × bM)) :=
  if 5 ≤ v3 then (some (.inr (v2, M))) else (if v2 ≤ 0 then (some (.inr (v2, M))) else (b_bind (F_X10_isSign 41 M) (fun x4 => if x4 = 0 then (some (.inr (v2, M))) else (b_bind (F_X1_settleAll v2 M) (fun M6 => b_g (b_i32 (v2 + (-1))) (b_bind (F_X1_settleOne (v2 + (-1)) M6) (fun M8 => b_bind (F_X10_step M8) (fun M9 => b_g (b_i32 (v3 + 1)) (some (.inl ((v2 + (-1)), (v3 + 1), M9)))))))))))
theorem t_X1_closeLevels_s9 {l : Launch} {E : bE} {Q : (Int × bM) → Prop} {v2 : Int} {v3 : Int} {M : bM} (h : b_wp (F_X1_closeLevels_s9 v2 v3 M) (Sum.elim (A_X1_closeLevels_9 l E Q ) (X_X1_closeLevels_9 l E Q ))) : V l E xX1_closeLevels (0, 0) 9 [(0, bR 4), (2, bI v2), (3, bI v3)] [] M (b_pI Q) := by
  unfold F_X1_closeLevels_s9 at h
  refine v_iload_n (f := 3) 2 rfl dX1_closeLevels_9 ?_
  refine v_iconst ⟨by decide, by decide⟩ dX1_closeLevels_10 ?_
  refine v_icmp_ge (tgt := 56) dX1_closeLevels_11 (by decide) (fun c2 => ?_) (fun c2 => ?_)
  · replace h := b_wp_t c2 h
    refine v_sub (ls2 := [(2, bI _)]) [1] rfl ?_
    exact h
  · replace h := b_wp_f c2 h
    refine v_iload_n (f := 2) 1 rfl dX1_closeLevels_14 ?_
    refine v_if_le (tgt := 56) dX1_closeLevels_15 (by decide) (fun c3 => ?_) (fun c3 => ?_)
    · replace h := b_wp_t c3 h
      refine v_sub (ls2 := [(2, bI _)]) [1] rfl ?_
      exact h
    · replace h := b_wp_f c3 h
      refine v_aload_n (f := 0) 0 rfl dX1_closeLevels_18 ?_
      refine v_getR (kf := 1) (kz := 1) rfl kd_4 rfl ⟨by decide, by decide⟩ rfl wf_1_27 dX1_closeLevels_19 ?_
      refine v_bipush ⟨by decide, by decide⟩ (by decide) dX1_closeLevels_22 ?_
      refine v_cVIp (nA := 1) (As := [bI _]) (ix := 101) (cf_X10_isSign (b_wp_b h)) rfl kd_1 rfl rfl wc_X10_isSign wm_1_101 wi_X10_isSign ws_X10_isSign wn_10 ⟨by decide, by decide, by decide⟩ rfl ⟨by decide, by decide⟩ ⟨by decide, by decide⟩ (Nat.le_of_ble_eq_true rfl) dX1_closeLevels_24 (fun x4 h => ?_)
      refine v_if_eq (tgt := 56) dX1_closeLevels_27 (by decide) (fun c5 => ?_) (fun c5 => ?_)
      · replace h := b_wp_t c5 h
        refine v_sub (ls2 := [(2, bI _)]) [1] rfl ?_
        exact h
      · replace h := b_wp_f c5 h
        refine v_aload_n (f := 0) 0 rfl dX1_closeLevels_30 ?_
        refine v_iload_n (f := 2) 1 rfl dX1_closeLevels_31 ?_
        refine v_cVV (nA := 1) (As := [bI _]) (ix := 155) (cf_X1_settleAll (b_wp_b h)) rfl kd_4 rfl rfl wc_X1_settleAll wm_1_155 wi_X1_settleAll ws_X1_settleAll wn_1 ⟨by decide, by decide, by decide⟩ rfl ⟨by decide, by decide⟩ ⟨by decide, by decide⟩ (Nat.le_of_ble_eq_true rfl) dX1_closeLevels_32 (fun M6 h => ?_)
        obtain ⟨g7, h⟩ := b_wp_g h
        refine v_iincN (ls' := [(2, bI _), (0, bR _), (3, bI _)]) 1 rfl (by decide) g7 dX1_closeLevels_35 rfl ?_
        refine v_aload_n (f := 0) 1 rfl dX1_closeLevels_38 ?_
        refine v_iload_n (f := 2) 0 rfl dX1_closeLevels_39 ?_
        refine v_cVV (nA := 1) (As := [bI _]) (ix := 159) (cf_X1_settleOne (b_wp_b h)) rfl kd_4 rfl rfl wc_X1_settleOne wm_1_159 wi_X1_settleOne ws_X1_settleOne wn_1 ⟨by decide, by decide, by decide⟩ rfl ⟨by decide, by decide⟩ ⟨by decide, by decide⟩ (Nat.le_of_ble_eq_true rfl) dX1_closeLevels_40 (fun M8 h => ?_)
        refine v_aload_n (f := 0) 1 rfl dX1_closeLevels_43 ?_
        refine v_getR (kf := 1) (kz := 1) rfl kd_4 rfl ⟨by decide, by decide⟩ rfl wf_1_27 dX1_closeLevels_44 ?_
        refine v_cVV (nA := 0) (As := []) (ix := 108) (cf_X10_step (b_wp_b h)) rfl kd_1 rfl rfl wc_X10_step wm_1_108 wi_X10_step ws_X10_step wn_10 ⟨by decide, by decide, by decide⟩ rfl ⟨by decide, by decide⟩ ⟨by decide, by decide⟩ (Nat.le_of_ble_eq_true rfl) dX1_closeLevels_47 (fun M9 h => ?_)
        obtain ⟨g10, h⟩ := b_wp_g h
        refine v_iincN (ls' := [(3, bI _), (2, bI _), (0, bR _)]) 2 rfl (by decide) g10 dX1_closeLevels_50 rfl ?_
        refine v_goto (tgt := 9) dX1_closeLevels_53 (by decide) ?_
        refine v_sub (ls2 := [(0, bR _), (2, bI _), (3, bI _)]) [2, 1, 0] rfl ?_
        exact h
theorem l_X1_closeLevels_9 {l : Launch} {E : bE} {Q : (Int × bM) → Prop} {s : Int × Int × bM} (h : b_wp (b_loop (fun t => F_X1_closeLevels_s9 t.1 t.2.1 t.2.2) s) (X_X1_closeLevels_9 l E Q )) : A_X1_closeLevels_9 l E Q  s := b_loop_wp (fun t h => t_X1_closeLevels_s9 h) s h
noncomputable def F_X1_closeLevels_b56 (v2 : Int) (M : bM) : Option (Int × bM) :=
  some (v2, M)
theorem t_X1_closeLevels_b56 {l : Launch} {E : bE} {Q : (Int × bM) → Prop} {v2 : Int} {M : bM} (h : b_wp (F_X1_closeLevels_b56 v2 M) (Q)) : V l E xX1_closeLevels (0, 0) 56 [(2, bI v2)] [] M (b_pI Q) := by
  unfold F_X1_closeLevels_b56 at h
  refine v_iload_n (f := 2) 0 rfl dX1_closeLevels_56 ?_
  refine v_ireturn rfl dX1_closeLevels_57 ⟨by decide, by decide⟩ ?_
  exact ⟨_, rfl, h⟩
noncomputable def F_X1_closeLevels (v1 : Int) (M : bM) : Option (Int × bM) :=
  b_bind (F_X1_settleOne v1 M) (fun M1 => b_bind (b_loop (fun t => F_X1_closeLevels_s9 t.1 t.2.1 t.2.2) (v1, 0, M1)) (fun t => F_X1_closeLevels_b56 (t.1) (t.2)))
theorem t_X1_closeLevels {l : Launch} {E : bE} {Q : (Int × bM) → Prop} {v1 : Int} {M : bM} (h : b_wp (F_X1_closeLevels v1 M) (Q)) : V l E xX1_closeLevels (0, 0) 0 [(0, bR 4), (1, bI v1)] [] M (b_pI Q) := by
  unfold F_X1_closeLevels at h
  refine v_iload_n (f := 1) 1 rfl dX1_closeLevels_0 ?_
  refine v_istore_n (g := 2) (i := 2) (ls' := [(2, bI _), (0, bR _), (1, bI _)]) rfl (by decide) dX1_closeLevels_1 rfl ?_
  refine v_aload_n (f := 0) 1 rfl dX1_closeLevels_2 ?_
  refine v_iload_n (f := 2) 0 rfl dX1_closeLevels_3 ?_
  refine v_cVV (nA := 1) (As := [bI _]) (ix := 159) (cf_X1_settleOne (b_wp_b h)) rfl kd_4 rfl rfl wc_X1_settleOne wm_1_159 wi_X1_settleOne ws_X1_settleOne wn_1 ⟨by decide, by decide, by decide⟩ rfl ⟨by decide, by decide⟩ ⟨by decide, by decide⟩ (Nat.le_of_ble_eq_true rfl) dX1_closeLevels_4 (fun M1 h => ?_)
  refine v_iconst ⟨by decide, by decide⟩ dX1_closeLevels_7 ?_
  refine v_istore_n (g := 3) (i := 3) (ls' := [(3, bI _), (2, bI _), (0, bR _), (1, bI _)]) rfl (by decide) dX1_closeLevels_8 rfl ?_
  refine v_sub (ls2 := [(0, bR _), (2, bI _), (3, bI _)]) [2, 1, 0] rfl ?_
  refine l_X1_closeLevels_9 (b_wp_m (fun t h => ?_) (b_wp_b h))
  show V l E xX1_closeLevels (0, 0) 56 [(2, bI _)] [] _ (b_pI Q)
  exact t_X1_closeLevels_b56 h
theorem cf_X1_closeLevels {l : Launch} {E : bE} {M : bM} {v1 : Int} {Q : (Int × bM) → Prop} (h : b_wp (F_X1_closeLevels v1 M) Q) : b_C l E xX1_closeLevels yX1_closeLevels [bR 4, bI v1] M (b_pI Q) := b_met (by decide) ⟨rfl, rfl⟩ (Nat.le_of_ble_eq_true rfl) (fun _ _ => t_X1_closeLevels h)
abbrev xX1_goesOn : bX := ("BurntHall$Acts", prog_3_method_11_code, 2, (Option.some Jvm.ClassFile.FieldType.boolean), b_rm 3 0 0, 0, "goesOn")
abbrev yX1_goesOn : MethodName := ⟨"BurntHall$Acts", "goesOn", "(I)Z"⟩
theorem dX1_goesOn_0 : decode prog_3_method_11_code 0 = .ok (.aload_n 0, 1) := by decide +kernel
theorem dX1_goesOn_1 : decode prog_3_method_11_code 1 = .ok (.getfield 27, 3) := by decide +kernel
theorem dX1_goesOn_4 : decode prog_3_method_11_code 4 = .ok (.aload_n 0, 1) := by decide +kernel
theorem dX1_goesOn_5 : decode prog_3_method_11_code 5 = .ok (.getfield 47, 3) := by decide +kernel
theorem dX1_goesOn_8 : decode prog_3_method_11_code 8 = .ok (.iconst 1, 1) := by decide +kernel
theorem dX1_goesOn_9 : decode prog_3_method_11_code 9 = .ok (.laload, 1) := by decide +kernel
theorem dX1_goesOn_10 : decode prog_3_method_11_code 10 = .ok (.invokevirtual 132, 3) := by decide +kernel
theorem dX1_goesOn_13 : decode prog_3_method_11_code 13 = .ok (.ifCond .eq 22, 3) := by decide +kernel
theorem dX1_goesOn_16 : decode prog_3_method_11_code 16 = .ok (.aload_n 0, 1) := by decide +kernel
theorem dX1_goesOn_17 : decode prog_3_method_11_code 17 = .ok (.getfield 23, 3) := by decide +kernel
theorem dX1_goesOn_20 : decode prog_3_method_11_code 20 = .ok (.iload_n 1, 1) := by decide +kernel
theorem dX1_goesOn_21 : decode prog_3_method_11_code 21 = .ok (.dup2, 1) := by decide +kernel
theorem dX1_goesOn_22 : decode prog_3_method_11_code 22 = .ok (.iaload, 1) := by decide +kernel
theorem dX1_goesOn_23 : decode prog_3_method_11_code 23 = .ok (.iconst 2, 1) := by decide +kernel
theorem dX1_goesOn_24 : decode prog_3_method_11_code 24 = .ok (.ior, 1) := by decide +kernel
theorem dX1_goesOn_25 : decode prog_3_method_11_code 25 = .ok (.iastore, 1) := by decide +kernel
theorem dX1_goesOn_26 : decode prog_3_method_11_code 26 = .ok (.aload_n 0, 1) := by decide +kernel
theorem dX1_goesOn_27 : decode prog_3_method_11_code 27 = .ok (.getfield 27, 3) := by decide +kernel
theorem dX1_goesOn_30 : decode prog_3_method_11_code 30 = .ok (.invokevirtual 108, 3) := by decide +kernel
theorem dX1_goesOn_33 : decode prog_3_method_11_code 33 = .ok (.iconst 1, 1) := by decide +kernel
theorem dX1_goesOn_34 : decode prog_3_method_11_code 34 = .ok (.ireturn, 1) := by decide +kernel
theorem dX1_goesOn_35 : decode prog_3_method_11_code 35 = .ok (.aload_n 0, 1) := by decide +kernel
theorem dX1_goesOn_36 : decode prog_3_method_11_code 36 = .ok (.getfield 27, 3) := by decide +kernel
theorem dX1_goesOn_39 : decode prog_3_method_11_code 39 = .ok (.aload_n 0, 1) := by decide +kernel
theorem dX1_goesOn_40 : decode prog_3_method_11_code 40 = .ok (.getfield 47, 3) := by decide +kernel
theorem dX1_goesOn_43 : decode prog_3_method_11_code 43 = .ok (.iconst 0, 1) := by decide +kernel
theorem dX1_goesOn_44 : decode prog_3_method_11_code 44 = .ok (.laload, 1) := by decide +kernel
theorem dX1_goesOn_45 : decode prog_3_method_11_code 45 = .ok (.invokevirtual 132, 3) := by decide +kernel
theorem dX1_goesOn_48 : decode prog_3_method_11_code 48 = .ok (.ifCond .eq 27, 3) := by decide +kernel
theorem dX1_goesOn_51 : decode prog_3_method_11_code 51 = .ok (.aload_n 0, 1) := by decide +kernel
theorem dX1_goesOn_52 : decode prog_3_method_11_code 52 = .ok (.iload_n 1, 1) := by decide +kernel
theorem dX1_goesOn_53 : decode prog_3_method_11_code 53 = .ok (.invokevirtual 155, 3) := by decide +kernel
theorem dX1_goesOn_56 : decode prog_3_method_11_code 56 = .ok (.aload_n 0, 1) := by decide +kernel
theorem dX1_goesOn_57 : decode prog_3_method_11_code 57 = .ok (.getfield 23, 3) := by decide +kernel
theorem dX1_goesOn_60 : decode prog_3_method_11_code 60 = .ok (.iload_n 1, 1) := by decide +kernel
theorem dX1_goesOn_61 : decode prog_3_method_11_code 61 = .ok (.dup2, 1) := by decide +kernel
theorem dX1_goesOn_62 : decode prog_3_method_11_code 62 = .ok (.iaload, 1) := by decide +kernel
theorem dX1_goesOn_63 : decode prog_3_method_11_code 63 = .ok (.iconst 4, 1) := by decide +kernel
theorem dX1_goesOn_64 : decode prog_3_method_11_code 64 = .ok (.ior, 1) := by decide +kernel
theorem dX1_goesOn_65 : decode prog_3_method_11_code 65 = .ok (.iastore, 1) := by decide +kernel
theorem dX1_goesOn_66 : decode prog_3_method_11_code 66 = .ok (.aload_n 0, 1) := by decide +kernel
theorem dX1_goesOn_67 : decode prog_3_method_11_code 67 = .ok (.getfield 27, 3) := by decide +kernel
theorem dX1_goesOn_70 : decode prog_3_method_11_code 70 = .ok (.invokevirtual 108, 3) := by decide +kernel
theorem dX1_goesOn_73 : decode prog_3_method_11_code 73 = .ok (.iconst 1, 1) := by decide +kernel
theorem dX1_goesOn_74 : decode prog_3_method_11_code 74 = .ok (.ireturn, 1) := by decide +kernel
theorem dX1_goesOn_75 : decode prog_3_method_11_code 75 = .ok (.iconst 0, 1) := by decide +kernel
theorem dX1_goesOn_76 : decode prog_3_method_11_code 76 = .ok (.ireturn, 1) := by decide +kernel
noncomputable def F_X1_goesOn (v1 : Int) (M : bM) : Option (Int × bM) :=
  b_bind (F_X10_isWord (M 106 1) M) (fun x1 => if x1 = 0 then (b_bind (F_X10_isWord (M 106 0) M) (fun x3 => if x3 = 0 then (some (0, M)) else (b_bind (F_X1_settleAll v1 M) (fun M5 => b_g (0 ≤ v1 ∧ v1 < 6) (b_let (b_up M5 109 v1 (i_or (M5 109 v1) 4)) (fun M7 => b_bind (F_X10_step M7) (fun M8 => some (1, M8)))))))) else (b_g (0 ≤ v1 ∧ v1 < 6) (b_let (b_up M 109 v1 (i_or (M 109 v1) 2)) (fun M10 => b_bind (F_X10_step M10) (fun M11 => some (1, M11))))))
theorem t_X1_goesOn {l : Launch} {E : bE} {Q : (Int × bM) → Prop} {v1 : Int} {M : bM} (h : b_wp (F_X1_goesOn v1 M) (Q)) : V l E xX1_goesOn (0, 0) 0 [(0, bR 4), (1, bI v1)] [] M (b_pI Q) := by
  unfold F_X1_goesOn at h
  refine v_aload_n (f := 0) 0 rfl dX1_goesOn_0 ?_
  refine v_getR (kf := 1) (kz := 1) rfl kd_4 rfl ⟨by decide, by decide⟩ rfl wf_1_27 dX1_goesOn_1 ?_
  refine v_aload_n (f := 0) 0 rfl dX1_goesOn_4 ?_
  refine v_getR (kf := 4) (kz := 4) rfl kd_4 rfl ⟨by decide, by decide⟩ rfl wf_1_47 dX1_goesOn_5 ?_
  refine v_iconst ⟨by decide, by decide⟩ dX1_goesOn_8 ?_
  refine v_laload kd_106 ⟨by decide, by decide⟩ (by decide) dX1_goesOn_9 ?_
  refine v_cVIp (nA := 1) (As := [bJ _]) (ix := 132) (cf_X10_isWord (b_wp_b h)) rfl kd_1 rfl rfl wc_X10_isWord wm_1_132 wi_X10_isWord ws_X10_isWord wn_10 ⟨by decide, by decide, by decide⟩ rfl ⟨by decide, by decide⟩ ⟨by decide, by decide⟩ (Nat.le_of_ble_eq_true rfl) dX1_goesOn_10 (fun x1 h => ?_)
  refine v_if_eq (tgt := 35) dX1_goesOn_13 (by decide) (fun c2 => ?_) (fun c2 => ?_)
  · replace h := b_wp_t c2 h
    refine v_aload_n (f := 0) 0 rfl dX1_goesOn_35 ?_
    refine v_getR (kf := 1) (kz := 1) rfl kd_4 rfl ⟨by decide, by decide⟩ rfl wf_1_27 dX1_goesOn_36 ?_
    refine v_aload_n (f := 0) 0 rfl dX1_goesOn_39 ?_
    refine v_getR (kf := 4) (kz := 4) rfl kd_4 rfl ⟨by decide, by decide⟩ rfl wf_1_47 dX1_goesOn_40 ?_
    refine v_iconst ⟨by decide, by decide⟩ dX1_goesOn_43 ?_
    refine v_laload kd_106 ⟨by decide, by decide⟩ (by decide) dX1_goesOn_44 ?_
    refine v_cVIp (nA := 1) (As := [bJ _]) (ix := 132) (cf_X10_isWord (b_wp_b h)) rfl kd_1 rfl rfl wc_X10_isWord wm_1_132 wi_X10_isWord ws_X10_isWord wn_10 ⟨by decide, by decide, by decide⟩ rfl ⟨by decide, by decide⟩ ⟨by decide, by decide⟩ (Nat.le_of_ble_eq_true rfl) dX1_goesOn_45 (fun x3 h => ?_)
    refine v_if_eq (tgt := 75) dX1_goesOn_48 (by decide) (fun c4 => ?_) (fun c4 => ?_)
    · replace h := b_wp_t c4 h
      refine v_iconst ⟨by decide, by decide⟩ dX1_goesOn_75 ?_
      refine v_zreturn rfl (Or.inl rfl) dX1_goesOn_76 ⟨by decide, by decide⟩ ?_
      exact ⟨_, rfl, h⟩
    · replace h := b_wp_f c4 h
      refine v_aload_n (f := 0) 0 rfl dX1_goesOn_51 ?_
      refine v_iload_n (f := 1) 1 rfl dX1_goesOn_52 ?_
      refine v_cVV (nA := 1) (As := [bI _]) (ix := 155) (cf_X1_settleAll (b_wp_b h)) rfl kd_4 rfl rfl wc_X1_settleAll wm_1_155 wi_X1_settleAll ws_X1_settleAll wn_1 ⟨by decide, by decide, by decide⟩ rfl ⟨by decide, by decide⟩ ⟨by decide, by decide⟩ (Nat.le_of_ble_eq_true rfl) dX1_goesOn_53 (fun M5 h => ?_)
      obtain ⟨g6, h⟩ := b_wp_g h
      refine v_aload_n (f := 0) 0 rfl dX1_goesOn_56 ?_
      refine v_getR (kf := 7) (kz := 7) rfl kd_4 rfl ⟨by decide, by decide⟩ rfl wf_1_23 dX1_goesOn_57 ?_
      refine v_iload_n (f := 1) 1 rfl dX1_goesOn_60 ?_
      refine v_dup2 rfl rfl dX1_goesOn_61 ?_
      refine v_iaload kd_109 g6 (by decide) dX1_goesOn_62 ?_
      refine v_iconst ⟨by decide, by decide⟩ dX1_goesOn_63 ?_
      refine v_ior (v := i_or _ _) rfl dX1_goesOn_64 ?_
      refine v_iastore kd_109 g6 (by decide) dX1_goesOn_65 ?_
      replace h := b_wp_l h
      refine v_aload_n (f := 0) 0 rfl dX1_goesOn_66 ?_
      refine v_getR (kf := 1) (kz := 1) rfl kd_4 rfl ⟨by decide, by decide⟩ rfl wf_1_27 dX1_goesOn_67 ?_
      refine v_cVV (nA := 0) (As := []) (ix := 108) (cf_X10_step (b_wp_b h)) rfl kd_1 rfl rfl wc_X10_step wm_1_108 wi_X10_step ws_X10_step wn_10 ⟨by decide, by decide, by decide⟩ rfl ⟨by decide, by decide⟩ ⟨by decide, by decide⟩ (Nat.le_of_ble_eq_true rfl) dX1_goesOn_70 (fun M8 h => ?_)
      refine v_iconst ⟨by decide, by decide⟩ dX1_goesOn_73 ?_
      refine v_zreturn rfl (Or.inr rfl) dX1_goesOn_74 ⟨by decide, by decide⟩ ?_
      exact ⟨_, rfl, h⟩
  · replace h := b_wp_f c2 h
    obtain ⟨g9, h⟩ := b_wp_g h
    refine v_aload_n (f := 0) 0 rfl dX1_goesOn_16 ?_
    refine v_getR (kf := 7) (kz := 7) rfl kd_4 rfl ⟨by decide, by decide⟩ rfl wf_1_23 dX1_goesOn_17 ?_
    refine v_iload_n (f := 1) 1 rfl dX1_goesOn_20 ?_
    refine v_dup2 rfl rfl dX1_goesOn_21 ?_
    refine v_iaload kd_109 g9 (by decide) dX1_goesOn_22 ?_
    refine v_iconst ⟨by decide, by decide⟩ dX1_goesOn_23 ?_
    refine v_ior (v := i_or _ _) rfl dX1_goesOn_24 ?_
    refine v_iastore kd_109 g9 (by decide) dX1_goesOn_25 ?_
    replace h := b_wp_l h
    refine v_aload_n (f := 0) 0 rfl dX1_goesOn_26 ?_
    refine v_getR (kf := 1) (kz := 1) rfl kd_4 rfl ⟨by decide, by decide⟩ rfl wf_1_27 dX1_goesOn_27 ?_
    refine v_cVV (nA := 0) (As := []) (ix := 108) (cf_X10_step (b_wp_b h)) rfl kd_1 rfl rfl wc_X10_step wm_1_108 wi_X10_step ws_X10_step wn_10 ⟨by decide, by decide, by decide⟩ rfl ⟨by decide, by decide⟩ ⟨by decide, by decide⟩ (Nat.le_of_ble_eq_true rfl) dX1_goesOn_30 (fun M11 h => ?_)
    refine v_iconst ⟨by decide, by decide⟩ dX1_goesOn_33 ?_
    refine v_zreturn rfl (Or.inr rfl) dX1_goesOn_34 ⟨by decide, by decide⟩ ?_
    exact ⟨_, rfl, h⟩
theorem cf_X1_goesOn {l : Launch} {E : bE} {M : bM} {v1 : Int} {Q : (Int × bM) → Prop} (h : b_wp (F_X1_goesOn v1 M) Q) : b_C l E xX1_goesOn yX1_goesOn [bR 4, bI v1] M (b_pI Q) := b_met (by decide) ⟨rfl, rfl⟩ (Nat.le_of_ble_eq_true rfl) (fun _ _ => t_X1_goesOn h)
abbrev xX1_readCond : bX := ("BurntHall$Acts", prog_3_method_9_code, 3, (Option.some Jvm.ClassFile.FieldType.boolean), b_rm 5 0 0, 0, "readCond")
abbrev yX1_readCond : MethodName := ⟨"BurntHall$Acts", "readCond", "()Z"⟩
theorem dX1_readCond_0 : decode prog_3_method_9_code 0 = .ok (.iconst 0, 1) := by decide +kernel
theorem dX1_readCond_1 : decode prog_3_method_9_code 1 = .ok (.istore_n 1, 1) := by decide +kernel
theorem dX1_readCond_2 : decode prog_3_method_9_code 2 = .ok (.aload_n 0, 1) := by decide +kernel
theorem dX1_readCond_3 : decode prog_3_method_9_code 3 = .ok (.iconst 0, 1) := by decide +kernel
theorem dX1_readCond_4 : decode prog_3_method_9_code 4 = .ok (.putfield 143, 3) := by decide +kernel
theorem dX1_readCond_7 : decode prog_3_method_9_code 7 = .ok (.aload_n 0, 1) := by decide +kernel
theorem dX1_readCond_8 : decode prog_3_method_9_code 8 = .ok (.getfield 23, 3) := by decide +kernel
theorem dX1_readCond_11 : decode prog_3_method_9_code 11 = .ok (.iconst 0, 1) := by decide +kernel
theorem dX1_readCond_12 : decode prog_3_method_9_code 12 = .ok (.iconst 0, 1) := by decide +kernel
theorem dX1_readCond_13 : decode prog_3_method_9_code 13 = .ok (.iastore, 1) := by decide +kernel
theorem dX1_readCond_14 : decode prog_3_method_9_code 14 = .ok (.iconst 0, 1) := by decide +kernel
theorem dX1_readCond_15 : decode prog_3_method_9_code 15 = .ok (.istore_n 2, 1) := by decide +kernel
theorem dX1_readCond_16 : decode prog_3_method_9_code 16 = .ok (.iload_n 2, 1) := by decide +kernel
theorem dX1_readCond_17 : decode prog_3_method_9_code 17 = .ok (.sipush 1000, 3) := by decide +kernel
theorem dX1_readCond_20 : decode prog_3_method_9_code 20 = .ok (.if_icmp .ge 140, 3) := by decide +kernel
theorem dX1_readCond_23 : decode prog_3_method_9_code 23 = .ok (.aload_n 0, 1) := by decide +kernel
theorem dX1_readCond_24 : decode prog_3_method_9_code 24 = .ok (.getfield 27, 3) := by decide +kernel
theorem dX1_readCond_27 : decode prog_3_method_9_code 27 = .ok (.aload_n 0, 1) := by decide +kernel
theorem dX1_readCond_28 : decode prog_3_method_9_code 28 = .ok (.getfield 47, 3) := by decide +kernel
theorem dX1_readCond_31 : decode prog_3_method_9_code 31 = .ok (.iconst 2, 1) := by decide +kernel
theorem dX1_readCond_32 : decode prog_3_method_9_code 32 = .ok (.laload, 1) := by decide +kernel
theorem dX1_readCond_33 : decode prog_3_method_9_code 33 = .ok (.invokevirtual 132, 3) := by decide +kernel
theorem dX1_readCond_36 : decode prog_3_method_9_code 36 = .ok (.ifCond .eq 23, 3) := by decide +kernel
theorem dX1_readCond_39 : decode prog_3_method_9_code 39 = .ok (.aload_n 0, 1) := by decide +kernel
theorem dX1_readCond_40 : decode prog_3_method_9_code 40 = .ok (.getfield 23, 3) := by decide +kernel
theorem dX1_readCond_43 : decode prog_3_method_9_code 43 = .ok (.iload_n 1, 1) := by decide +kernel
theorem dX1_readCond_44 : decode prog_3_method_9_code 44 = .ok (.dup2, 1) := by decide +kernel
theorem dX1_readCond_45 : decode prog_3_method_9_code 45 = .ok (.iaload, 1) := by decide +kernel
theorem dX1_readCond_46 : decode prog_3_method_9_code 46 = .ok (.iconst 1, 1) := by decide +kernel
theorem dX1_readCond_47 : decode prog_3_method_9_code 47 = .ok (.ixor, 1) := by decide +kernel
theorem dX1_readCond_48 : decode prog_3_method_9_code 48 = .ok (.iastore, 1) := by decide +kernel
theorem dX1_readCond_49 : decode prog_3_method_9_code 49 = .ok (.aload_n 0, 1) := by decide +kernel
theorem dX1_readCond_50 : decode prog_3_method_9_code 50 = .ok (.getfield 27, 3) := by decide +kernel
theorem dX1_readCond_53 : decode prog_3_method_9_code 53 = .ok (.invokevirtual 108, 3) := by decide +kernel
theorem dX1_readCond_56 : decode prog_3_method_9_code 56 = .ok (.goto 98, 3) := by decide +kernel
theorem dX1_readCond_59 : decode prog_3_method_9_code 59 = .ok (.aload_n 0, 1) := by decide +kernel
theorem dX1_readCond_60 : decode prog_3_method_9_code 60 = .ok (.getfield 27, 3) := by decide +kernel
theorem dX1_readCond_63 : decode prog_3_method_9_code 63 = .ok (.bipush 40, 2) := by decide +kernel
theorem dX1_readCond_65 : decode prog_3_method_9_code 65 = .ok (.invokevirtual 101, 3) := by decide +kernel
theorem dX1_readCond_68 : decode prog_3_method_9_code 68 = .ok (.ifCond .eq 37, 3) := by decide +kernel
theorem dX1_readCond_71 : decode prog_3_method_9_code 71 = .ok (.iload_n 1, 1) := by decide +kernel
theorem dX1_readCond_72 : decode prog_3_method_9_code 72 = .ok (.iconst 5, 1) := by decide +kernel
theorem dX1_readCond_73 : decode prog_3_method_9_code 73 = .ok (.if_icmp .lt 12, 3) := by decide +kernel
theorem dX1_readCond_76 : decode prog_3_method_9_code 76 = .ok (.aload_n 0, 1) := by decide +kernel
theorem dX1_readCond_77 : decode prog_3_method_9_code 77 = .ok (.getfield 27, 3) := by decide +kernel
theorem dX1_readCond_80 : decode prog_3_method_9_code 80 = .ok (.iconst 4, 1) := by decide +kernel
theorem dX1_readCond_81 : decode prog_3_method_9_code 81 = .ok (.invokevirtual 105, 3) := by decide +kernel
theorem dX1_readCond_84 : decode prog_3_method_9_code 84 = .ok (.ireturn, 1) := by decide +kernel
theorem dX1_readCond_85 : decode prog_3_method_9_code 85 = .ok (.iinc 1 1, 3) := by decide +kernel
theorem dX1_readCond_88 : decode prog_3_method_9_code 88 = .ok (.aload_n 0, 1) := by decide +kernel
theorem dX1_readCond_89 : decode prog_3_method_9_code 89 = .ok (.getfield 23, 3) := by decide +kernel
theorem dX1_readCond_92 : decode prog_3_method_9_code 92 = .ok (.iload_n 1, 1) := by decide +kernel
theorem dX1_readCond_93 : decode prog_3_method_9_code 93 = .ok (.iconst 0, 1) := by decide +kernel
theorem dX1_readCond_94 : decode prog_3_method_9_code 94 = .ok (.iastore, 1) := by decide +kernel
theorem dX1_readCond_95 : decode prog_3_method_9_code 95 = .ok (.aload_n 0, 1) := by decide +kernel
theorem dX1_readCond_96 : decode prog_3_method_9_code 96 = .ok (.getfield 27, 3) := by decide +kernel
theorem dX1_readCond_99 : decode prog_3_method_9_code 99 = .ok (.invokevirtual 108, 3) := by decide +kernel
theorem dX1_readCond_102 : decode prog_3_method_9_code 102 = .ok (.goto 52, 3) := by decide +kernel
theorem dX1_readCond_105 : decode prog_3_method_9_code 105 = .ok (.aload_n 0, 1) := by decide +kernel
theorem dX1_readCond_106 : decode prog_3_method_9_code 106 = .ok (.invokevirtual 146, 3) := by decide +kernel
theorem dX1_readCond_109 : decode prog_3_method_9_code 109 = .ok (.ifCond .ne 5, 3) := by decide +kernel
theorem dX1_readCond_112 : decode prog_3_method_9_code 112 = .ok (.iconst 0, 1) := by decide +kernel
theorem dX1_readCond_113 : decode prog_3_method_9_code 113 = .ok (.ireturn, 1) := by decide +kernel
theorem dX1_readCond_114 : decode prog_3_method_9_code 114 = .ok (.aload_n 0, 1) := by decide +kernel
theorem dX1_readCond_115 : decode prog_3_method_9_code 115 = .ok (.iload_n 1, 1) := by decide +kernel
theorem dX1_readCond_116 : decode prog_3_method_9_code 116 = .ok (.invokevirtual 149, 3) := by decide +kernel
theorem dX1_readCond_119 : decode prog_3_method_9_code 119 = .ok (.istore_n 1, 1) := by decide +kernel
theorem dX1_readCond_120 : decode prog_3_method_9_code 120 = .ok (.aload_n 0, 1) := by decide +kernel
theorem dX1_readCond_121 : decode prog_3_method_9_code 121 = .ok (.iload_n 1, 1) := by decide +kernel
theorem dX1_readCond_122 : decode prog_3_method_9_code 122 = .ok (.invokevirtual 152, 3) := by decide +kernel
theorem dX1_readCond_125 : decode prog_3_method_9_code 125 = .ok (.ifCond .ne 29, 3) := by decide +kernel
theorem dX1_readCond_128 : decode prog_3_method_9_code 128 = .ok (.aload_n 0, 1) := by decide +kernel
theorem dX1_readCond_129 : decode prog_3_method_9_code 129 = .ok (.iload_n 1, 1) := by decide +kernel
theorem dX1_readCond_130 : decode prog_3_method_9_code 130 = .ok (.invokevirtual 155, 3) := by decide +kernel
theorem dX1_readCond_133 : decode prog_3_method_9_code 133 = .ok (.iload_n 1, 1) := by decide +kernel
theorem dX1_readCond_134 : decode prog_3_method_9_code 134 = .ok (.ifCond .eq 14, 3) := by decide +kernel
theorem dX1_readCond_137 : decode prog_3_method_9_code 137 = .ok (.aload_n 0, 1) := by decide +kernel
theorem dX1_readCond_138 : decode prog_3_method_9_code 138 = .ok (.getfield 27, 3) := by decide +kernel
theorem dX1_readCond_141 : decode prog_3_method_9_code 141 = .ok (.iconst 1, 1) := by decide +kernel
theorem dX1_readCond_142 : decode prog_3_method_9_code 142 = .ok (.invokevirtual 105, 3) := by decide +kernel
theorem dX1_readCond_145 : decode prog_3_method_9_code 145 = .ok (.ifCond .eq 7, 3) := by decide +kernel
theorem dX1_readCond_148 : decode prog_3_method_9_code 148 = .ok (.iconst 1, 1) := by decide +kernel
theorem dX1_readCond_149 : decode prog_3_method_9_code 149 = .ok (.goto 4, 3) := by decide +kernel
theorem dX1_readCond_152 : decode prog_3_method_9_code 152 = .ok (.iconst 0, 1) := by decide +kernel
theorem dX1_readCond_153 : decode prog_3_method_9_code 153 = .ok (.ireturn, 1) := by decide +kernel
theorem dX1_readCond_154 : decode prog_3_method_9_code 154 = .ok (.iinc 2 1, 3) := by decide +kernel
theorem dX1_readCond_157 : decode prog_3_method_9_code 157 = .ok (.goto (-141), 3) := by decide +kernel
theorem dX1_readCond_160 : decode prog_3_method_9_code 160 = .ok (.iconst 0, 1) := by decide +kernel
theorem dX1_readCond_161 : decode prog_3_method_9_code 161 = .ok (.ireturn, 1) := by decide +kernel
abbrev A_X1_readCond_16 (l : Launch) (E : bE) (Q : (Int × bM) → Prop) : (Int × Int × bM) → Prop := (fun t : Int × Int × bM => V l E xX1_readCond (0, 0) 16 [(0, bR 4), (1, bI (t.1)), (2, bI (t.2.1))] [] t.2.2 (b_pI Q))
abbrev X_X1_readCond_16 (l : Launch) (E : bE) (Q : (Int × bM) → Prop) : ((bM) ⊕ (Int × bM)) → Prop := (Sum.elim (fun t : bM => V l E xX1_readCond (0, 0) 160 [] [] t (b_pI Q)) Q)
noncomputable def F_X1_readCond_s16 (v1 : Int) (v2 : Int) (M : bM) : Option ((Int × Int × bM) ⊕ ((bM) ⊕ (Int × bM))) :=
  if 1000 ≤ v2 then (some (.inr (.inl (M)))) else (b_bind (F_X10_isWord (M 106 2) M) (fun x4 => if x4 = 0 then (b_bind (F_X10_isSign 40 M) (fun x6 => if x6 = 0 then (b_bind (F_X1_readTest M) (fun t => b_two t (fun x8 M9 => if x8 = 0 then (some (.inr (.inr (0, M9)))) else (b_bind (F_X1_closeLevels v1 M9) (fun t => b_two t (fun x11 M12 => b_bind (F_X1_goesOn x11 M12) (fun t => b_two t (fun x13 M14 => if x13 = 0 then (b_bind (F_X1_settleAll x11 M14) (fun M17 => if x11 = 0 then (some (.inr (.inr (1, M17)))) else (b_bind (F_X10_wrong 1 M17) (fun t => b_two t (fun x19 M20 => if x19 = 0 then (some (.inr (.inr (0, M20)))) else (some (.inr (.inr (1, M20))))))))) else (b_g (b_i32 (v2 + 1)) (some (.inl (x11, (v2 + 1), M14)))))))))))) else (if v1 < 5 then (b_g ((b_i32 (v1 + 1)) ∧ (0 ≤ (v1 + 1) ∧ (v1 + 1) < 6)) (b_let (b_up M 109 (v1 + 1) 0) (fun M25 => b_bind (F_X10_step M25) (fun M26 => b_g (b_i32 (v2 + 1)) (some (.inl ((v1 + 1), (v2 + 1), M26))))))) else (b_bind (F_X10_wrong 4 M) (fun t => b_two t (fun x28 M29 => b_g (x28 = 0 ∨ x28 = 1) (some (.inr (.inr (x28, M29)))))))))) else (b_g (0 ≤ v1 ∧ v1 < 6) (b_let (b_up M 109 v1 (i_xor (M 109 v1) 1)) (fun M32 => b_bind (F_X10_step M32) (fun M33 => b_g (b_i32 (v2 + 1)) (some (.inl (v1, (v2 + 1), M33)))))))))
theorem t_X1_readCond_s16 {l : Launch} {E : bE} {Q : (Int × bM) → Prop} {v1 : Int} {v2 : Int} {M : bM} (h : b_wp (F_X1_readCond_s16 v1 v2 M) (Sum.elim (A_X1_readCond_16 l E Q ) (X_X1_readCond_16 l E Q ))) : V l E xX1_readCond (0, 0) 16 [(0, bR 4), (1, bI v1), (2, bI v2)] [] M (b_pI Q) := by
  unfold F_X1_readCond_s16 at h
  refine v_iload_n (f := 2) 2 rfl dX1_readCond_16 ?_
  refine v_sipush ⟨by decide, by decide⟩ (by decide) dX1_readCond_17 ?_
  refine v_icmp_ge (tgt := 160) dX1_readCond_20 (by decide) (fun c3 => ?_) (fun c3 => ?_)
  · replace h := b_wp_t c3 h
    refine v_sub (ls2 := []) [] rfl ?_
    exact h
  · replace h := b_wp_f c3 h
    refine v_aload_n (f := 0) 0 rfl dX1_readCond_23 ?_
    refine v_getR (kf := 1) (kz := 1) rfl kd_4 rfl ⟨by decide, by decide⟩ rfl wf_1_27 dX1_readCond_24 ?_
    refine v_aload_n (f := 0) 0 rfl dX1_readCond_27 ?_
    refine v_getR (kf := 4) (kz := 4) rfl kd_4 rfl ⟨by decide, by decide⟩ rfl wf_1_47 dX1_readCond_28 ?_
    refine v_iconst ⟨by decide, by decide⟩ dX1_readCond_31 ?_
    refine v_laload kd_106 ⟨by decide, by decide⟩ (by decide) dX1_readCond_32 ?_
    refine v_cVIp (nA := 1) (As := [bJ _]) (ix := 132) (cf_X10_isWord (b_wp_b h)) rfl kd_1 rfl rfl wc_X10_isWord wm_1_132 wi_X10_isWord ws_X10_isWord wn_10 ⟨by decide, by decide, by decide⟩ rfl ⟨by decide, by decide⟩ ⟨by decide, by decide⟩ (Nat.le_of_ble_eq_true rfl) dX1_readCond_33 (fun x4 h => ?_)
    refine v_if_eq (tgt := 59) dX1_readCond_36 (by decide) (fun c5 => ?_) (fun c5 => ?_)
    · replace h := b_wp_t c5 h
      refine v_aload_n (f := 0) 0 rfl dX1_readCond_59 ?_
      refine v_getR (kf := 1) (kz := 1) rfl kd_4 rfl ⟨by decide, by decide⟩ rfl wf_1_27 dX1_readCond_60 ?_
      refine v_bipush ⟨by decide, by decide⟩ (by decide) dX1_readCond_63 ?_
      refine v_cVIp (nA := 1) (As := [bI _]) (ix := 101) (cf_X10_isSign (b_wp_b h)) rfl kd_1 rfl rfl wc_X10_isSign wm_1_101 wi_X10_isSign ws_X10_isSign wn_10 ⟨by decide, by decide, by decide⟩ rfl ⟨by decide, by decide⟩ ⟨by decide, by decide⟩ (Nat.le_of_ble_eq_true rfl) dX1_readCond_65 (fun x6 h => ?_)
      refine v_if_eq (tgt := 105) dX1_readCond_68 (by decide) (fun c7 => ?_) (fun c7 => ?_)
      · replace h := b_wp_t c7 h
        refine v_aload_n (f := 0) 0 rfl dX1_readCond_105 ?_
        refine v_cVI (nA := 0) (As := []) (ix := 146) (cf_X1_readTest (b_wp_b h)) rfl kd_4 rfl rfl wc_X1_readTest wm_1_146 wi_X1_readTest ws_X1_readTest wn_1 ⟨by decide, by decide, by decide⟩ rfl ⟨by decide, by decide⟩ ⟨by decide, by decide⟩ (Nat.le_of_ble_eq_true rfl) dX1_readCond_106 (fun x8 M9 h => ?_)
        replace h := b_wp_two h
        refine v_if_ne (tgt := 114) dX1_readCond_109 (by decide) (fun c10 => ?_) (fun c10 => ?_)
        · replace h := b_wp_f c10 h
          refine v_aload_n (f := 0) 0 rfl dX1_readCond_114 ?_
          refine v_iload_n (f := 1) 1 rfl dX1_readCond_115 ?_
          refine v_cVI (nA := 1) (As := [bI _]) (ix := 149) (cf_X1_closeLevels (b_wp_b h)) rfl kd_4 rfl rfl wc_X1_closeLevels wm_1_149 wi_X1_closeLevels ws_X1_closeLevels wn_1 ⟨by decide, by decide, by decide⟩ rfl ⟨by decide, by decide⟩ ⟨by decide, by decide⟩ (Nat.le_of_ble_eq_true rfl) dX1_readCond_116 (fun x11 M12 h => ?_)
          replace h := b_wp_two h
          refine v_istore_n (g := 1) (i := 1) (ls' := [(1, bI _), (0, bR _), (2, bI _)]) rfl (by decide) dX1_readCond_119 rfl ?_
          refine v_aload_n (f := 0) 1 rfl dX1_readCond_120 ?_
          refine v_iload_n (f := 1) 0 rfl dX1_readCond_121 ?_
          refine v_cVI (nA := 1) (As := [bI _]) (ix := 152) (cf_X1_goesOn (b_wp_b h)) rfl kd_4 rfl rfl wc_X1_goesOn wm_1_152 wi_X1_goesOn ws_X1_goesOn wn_1 ⟨by decide, by decide, by decide⟩ rfl ⟨by decide, by decide⟩ ⟨by decide, by decide⟩ (Nat.le_of_ble_eq_true rfl) dX1_readCond_122 (fun x13 M14 h => ?_)
          replace h := b_wp_two h
          refine v_if_ne (tgt := 154) dX1_readCond_125 (by decide) (fun c15 => ?_) (fun c15 => ?_)
          · replace h := b_wp_f c15 h
            obtain ⟨g16, h⟩ := b_wp_g h
            refine v_iincN (ls' := [(2, bI _), (1, bI _), (0, bR _)]) 2 rfl (by decide) g16 dX1_readCond_154 rfl ?_
            refine v_goto (tgt := 16) dX1_readCond_157 (by decide) ?_
            refine v_sub (ls2 := [(0, bR _), (1, bI _), (2, bI _)]) [2, 1, 0] rfl ?_
            exact h
          · replace h := b_wp_t c15 h
            refine v_aload_n (f := 0) 1 rfl dX1_readCond_128 ?_
            refine v_iload_n (f := 1) 0 rfl dX1_readCond_129 ?_
            refine v_cVV (nA := 1) (As := [bI _]) (ix := 155) (cf_X1_settleAll (b_wp_b h)) rfl kd_4 rfl rfl wc_X1_settleAll wm_1_155 wi_X1_settleAll ws_X1_settleAll wn_1 ⟨by decide, by decide, by decide⟩ rfl ⟨by decide, by decide⟩ ⟨by decide, by decide⟩ (Nat.le_of_ble_eq_true rfl) dX1_readCond_130 (fun M17 h => ?_)
            refine v_iload_n (f := 1) 0 rfl dX1_readCond_133 ?_
            refine v_if_eq (tgt := 148) dX1_readCond_134 (by decide) (fun c18 => ?_) (fun c18 => ?_)
            · replace h := b_wp_t c18 h
              refine v_iconst ⟨by decide, by decide⟩ dX1_readCond_148 ?_
              refine v_goto (tgt := 153) dX1_readCond_149 (by decide) ?_
              refine v_zreturn rfl (Or.inr rfl) dX1_readCond_153 ⟨by decide, by decide⟩ ?_
              exact ⟨_, rfl, h⟩
            · replace h := b_wp_f c18 h
              refine v_aload_n (f := 0) 1 rfl dX1_readCond_137 ?_
              refine v_getR (kf := 1) (kz := 1) rfl kd_4 rfl ⟨by decide, by decide⟩ rfl wf_1_27 dX1_readCond_138 ?_
              refine v_iconst ⟨by decide, by decide⟩ dX1_readCond_141 ?_
              refine v_cVI (nA := 1) (As := [bI _]) (ix := 105) (cf_X10_wrong (b_wp_b h)) rfl kd_1 rfl rfl wc_X10_wrong wm_1_105 wi_X10_wrong ws_X10_wrong wn_10 ⟨by decide, by decide, by decide⟩ rfl ⟨by decide, by decide⟩ ⟨by decide, by decide⟩ (Nat.le_of_ble_eq_true rfl) dX1_readCond_142 (fun x19 M20 h => ?_)
              replace h := b_wp_two h
              refine v_if_eq (tgt := 152) dX1_readCond_145 (by decide) (fun c21 => ?_) (fun c21 => ?_)
              · replace h := b_wp_t c21 h
                refine v_iconst ⟨by decide, by decide⟩ dX1_readCond_152 ?_
                refine v_zreturn rfl (Or.inl rfl) dX1_readCond_153 ⟨by decide, by decide⟩ ?_
                exact ⟨_, rfl, h⟩
              · replace h := b_wp_f c21 h
                refine v_iconst ⟨by decide, by decide⟩ dX1_readCond_148 ?_
                refine v_goto (tgt := 153) dX1_readCond_149 (by decide) ?_
                refine v_zreturn rfl (Or.inr rfl) dX1_readCond_153 ⟨by decide, by decide⟩ ?_
                exact ⟨_, rfl, h⟩
        · replace h := b_wp_t c10 h
          refine v_iconst ⟨by decide, by decide⟩ dX1_readCond_112 ?_
          refine v_zreturn rfl (Or.inl rfl) dX1_readCond_113 ⟨by decide, by decide⟩ ?_
          exact ⟨_, rfl, h⟩
      · replace h := b_wp_f c7 h
        refine v_iload_n (f := 1) 1 rfl dX1_readCond_71 ?_
        refine v_iconst ⟨by decide, by decide⟩ dX1_readCond_72 ?_
        refine v_icmp_lt (tgt := 85) dX1_readCond_73 (by decide) (fun c22 => ?_) (fun c22 => ?_)
        · replace h := b_wp_t c22 h
          obtain ⟨⟨g23, g24⟩, h⟩ := b_wp_g h
          refine v_iincN (ls' := [(1, bI _), (0, bR _), (2, bI _)]) 1 rfl (by decide) g23 dX1_readCond_85 rfl ?_
          refine v_aload_n (f := 0) 1 rfl dX1_readCond_88 ?_
          refine v_getR (kf := 7) (kz := 7) rfl kd_4 rfl ⟨by decide, by decide⟩ rfl wf_1_23 dX1_readCond_89 ?_
          refine v_iload_n (f := 1) 0 rfl dX1_readCond_92 ?_
          refine v_iconst ⟨by decide, by decide⟩ dX1_readCond_93 ?_
          refine v_iastore kd_109 g24 (by decide) dX1_readCond_94 ?_
          replace h := b_wp_l h
          refine v_aload_n (f := 0) 1 rfl dX1_readCond_95 ?_
          refine v_getR (kf := 1) (kz := 1) rfl kd_4 rfl ⟨by decide, by decide⟩ rfl wf_1_27 dX1_readCond_96 ?_
          refine v_cVV (nA := 0) (As := []) (ix := 108) (cf_X10_step (b_wp_b h)) rfl kd_1 rfl rfl wc_X10_step wm_1_108 wi_X10_step ws_X10_step wn_10 ⟨by decide, by decide, by decide⟩ rfl ⟨by decide, by decide⟩ ⟨by decide, by decide⟩ (Nat.le_of_ble_eq_true rfl) dX1_readCond_99 (fun M26 h => ?_)
          obtain ⟨g27, h⟩ := b_wp_g h
          refine v_goto (tgt := 154) dX1_readCond_102 (by decide) ?_
          refine v_iincN (ls' := [(2, bI _), (1, bI _), (0, bR _)]) 2 rfl (by decide) g27 dX1_readCond_154 rfl ?_
          refine v_goto (tgt := 16) dX1_readCond_157 (by decide) ?_
          refine v_sub (ls2 := [(0, bR _), (1, bI _), (2, bI _)]) [2, 1, 0] rfl ?_
          exact h
        · replace h := b_wp_f c22 h
          refine v_aload_n (f := 0) 0 rfl dX1_readCond_76 ?_
          refine v_getR (kf := 1) (kz := 1) rfl kd_4 rfl ⟨by decide, by decide⟩ rfl wf_1_27 dX1_readCond_77 ?_
          refine v_iconst ⟨by decide, by decide⟩ dX1_readCond_80 ?_
          refine v_cVI (nA := 1) (As := [bI _]) (ix := 105) (cf_X10_wrong (b_wp_b h)) rfl kd_1 rfl rfl wc_X10_wrong wm_1_105 wi_X10_wrong ws_X10_wrong wn_10 ⟨by decide, by decide, by decide⟩ rfl ⟨by decide, by decide⟩ ⟨by decide, by decide⟩ (Nat.le_of_ble_eq_true rfl) dX1_readCond_81 (fun x28 M29 h => ?_)
          replace h := b_wp_two h
          obtain ⟨g30, h⟩ := b_wp_g h
          refine v_zreturn rfl g30 dX1_readCond_84 ⟨by decide, by decide⟩ ?_
          exact ⟨_, rfl, h⟩
    · replace h := b_wp_f c5 h
      obtain ⟨g31, h⟩ := b_wp_g h
      refine v_aload_n (f := 0) 0 rfl dX1_readCond_39 ?_
      refine v_getR (kf := 7) (kz := 7) rfl kd_4 rfl ⟨by decide, by decide⟩ rfl wf_1_23 dX1_readCond_40 ?_
      refine v_iload_n (f := 1) 1 rfl dX1_readCond_43 ?_
      refine v_dup2 rfl rfl dX1_readCond_44 ?_
      refine v_iaload kd_109 g31 (by decide) dX1_readCond_45 ?_
      refine v_iconst ⟨by decide, by decide⟩ dX1_readCond_46 ?_
      refine v_ixor (v := i_xor _ _) rfl dX1_readCond_47 ?_
      refine v_iastore kd_109 g31 (by decide) dX1_readCond_48 ?_
      replace h := b_wp_l h
      refine v_aload_n (f := 0) 0 rfl dX1_readCond_49 ?_
      refine v_getR (kf := 1) (kz := 1) rfl kd_4 rfl ⟨by decide, by decide⟩ rfl wf_1_27 dX1_readCond_50 ?_
      refine v_cVV (nA := 0) (As := []) (ix := 108) (cf_X10_step (b_wp_b h)) rfl kd_1 rfl rfl wc_X10_step wm_1_108 wi_X10_step ws_X10_step wn_10 ⟨by decide, by decide, by decide⟩ rfl ⟨by decide, by decide⟩ ⟨by decide, by decide⟩ (Nat.le_of_ble_eq_true rfl) dX1_readCond_53 (fun M33 h => ?_)
      obtain ⟨g34, h⟩ := b_wp_g h
      refine v_goto (tgt := 154) dX1_readCond_56 (by decide) ?_
      refine v_iincN (ls' := [(2, bI _), (0, bR _), (1, bI _)]) 2 rfl (by decide) g34 dX1_readCond_154 rfl ?_
      refine v_goto (tgt := 16) dX1_readCond_157 (by decide) ?_
      refine v_sub (ls2 := [(0, bR _), (1, bI _), (2, bI _)]) [1, 2, 0] rfl ?_
      exact h
theorem l_X1_readCond_16 {l : Launch} {E : bE} {Q : (Int × bM) → Prop} {s : Int × Int × bM} (h : b_wp (b_loop (fun t => F_X1_readCond_s16 t.1 t.2.1 t.2.2) s) (X_X1_readCond_16 l E Q )) : A_X1_readCond_16 l E Q  s := b_loop_wp (fun t h => t_X1_readCond_s16 h) s h
noncomputable def F_X1_readCond_b160 (M : bM) : Option (Int × bM) :=
  some (0, M)
theorem t_X1_readCond_b160 {l : Launch} {E : bE} {Q : (Int × bM) → Prop} {M : bM} (h : b_wp (F_X1_readCond_b160 M) (Q)) : V l E xX1_readCond (0, 0) 160 [] [] M (b_pI Q) := by
  unfold F_X1_readCond_b160 at h
  refine v_iconst ⟨by decide, by decide⟩ dX1_readCond_160 ?_
  refine v_zreturn rfl (Or.inl rfl) dX1_readCond_161 ⟨by decide, by decide⟩ ?_
  exact ⟨_, rfl, h⟩
noncomputable def F_X1_readCond (M : bM) : Option (Int × bM) :=
  b_let (b_up M 4 11 0) (fun M1 => b_let (b_up M1 109 0 0) (fun M2 => b_bind (b_loop (fun t => F_X1_readCond_s16 t.1 t.2.1 t.2.2) (0, 0, M2)) (Sum.elim (fun t => F_X1_readCond_b160 t) some)))
theorem t_X1_readCond {l : Launch} {E : bE} {Q : (Int × bM) → Prop} {M : bM} (h : b_wp (F_X1_readCond M) (Q)) : V l E xX1_readCond (0, 0) 0 [(0, bR 4)] [] M (b_pI Q) := by
  unfold F_X1_readCond at h
  refine v_iconst ⟨by decide, by decide⟩ dX1_readCond_0 ?_
  refine v_istore_n (g := 1) (i := 1) (ls' := [(1, bI _), (0, bR _)]) rfl (by decide) dX1_readCond_1 rfl ?_
  refine v_aload_n (f := 0) 1 rfl dX1_readCond_2 ?_
  refine v_iconst ⟨by decide, by decide⟩ dX1_readCond_3 ?_
  refine v_putI (kf := 11) (kz := 11) rfl kd_4 rfl ⟨by decide, by decide⟩ rfl wf_1_143 rfl rfl dX1_readCond_4 ?_
  replace h := b_wp_l h
  refine v_aload_n (f := 0) 1 rfl dX1_readCond_7 ?_
  refine v_getR (kf := 7) (kz := 7) rfl kd_4 rfl ⟨by decide, by decide⟩ rfl wf_1_23 dX1_readCond_8 ?_
  refine v_iconst ⟨by decide, by decide⟩ dX1_readCond_11 ?_
  refine v_iconst ⟨by decide, by decide⟩ dX1_readCond_12 ?_
  refine v_iastore kd_109 ⟨by decide, by decide⟩ (by decide) dX1_readCond_13 ?_
  replace h := b_wp_l h
  refine v_iconst ⟨by decide, by decide⟩ dX1_readCond_14 ?_
  refine v_istore_n (g := 2) (i := 2) (ls' := [(2, bI _), (1, bI _), (0, bR _)]) rfl (by decide) dX1_readCond_15 rfl ?_
  refine v_sub (ls2 := [(0, bR _), (1, bI _), (2, bI _)]) [2, 1, 0] rfl ?_
  refine l_X1_readCond_16 (b_wp_m (fun t h => ?_) (b_wp_b h))
  cases t with
  | inr o => exact h
  | inl t =>
    show V l E xX1_readCond (0, 0) 160 [] [] _ (b_pI Q)
    replace h := b_wp_inl h
    exact t_X1_readCond_b160 h
theorem cf_X1_readCond {l : Launch} {E : bE} {M : bM} {Q : (Int × bM) → Prop} (h : b_wp (F_X1_readCond M) Q) : b_C l E xX1_readCond yX1_readCond [bR 4] M (b_pI Q) := b_met (by decide) ⟨rfl, rfl⟩ (Nat.le_of_ble_eq_true rfl) (fun _ _ => t_X1_readCond h)
abbrev xX1_readProof : bX := ("BurntHall$Acts", prog_3_method_8_code, 3, (Option.some Jvm.ClassFile.FieldType.boolean), b_rm 6 0 0, 0, "readProof")
abbrev yX1_readProof : MethodName := ⟨"BurntHall$Acts", "readProof", "()Z"⟩
theorem dX1_readProof_0 : decode prog_3_method_8_code 0 = .ok (.aload_n 0, 1) := by decide +kernel
theorem dX1_readProof_1 : decode prog_3_method_8_code 1 = .ok (.getfield 51, 3) := by decide +kernel
theorem dX1_readProof_4 : decode prog_3_method_8_code 4 = .ok (.getfield 129, 3) := by decide +kernel
theorem dX1_readProof_7 : decode prog_3_method_8_code 7 = .ok (.bipush 24, 2) := by decide +kernel
theorem dX1_readProof_9 : decode prog_3_method_8_code 9 = .ok (.if_icmp .lt 12, 3) := by decide +kernel
theorem dX1_readProof_12 : decode prog_3_method_8_code 12 = .ok (.aload_n 0, 1) := by decide +kernel
theorem dX1_readProof_13 : decode prog_3_method_8_code 13 = .ok (.getfield 27, 3) := by decide +kernel
theorem dX1_readProof_16 : decode prog_3_method_8_code 16 = .ok (.iconst 4, 1) := by decide +kernel
theorem dX1_readProof_17 : decode prog_3_method_8_code 17 = .ok (.invokevirtual 105, 3) := by decide +kernel
theorem dX1_readProof_20 : decode prog_3_method_8_code 20 = .ok (.ireturn, 1) := by decide +kernel
theorem dX1_readProof_21 : decode prog_3_method_8_code 21 = .ok (.aload_n 0, 1) := by decide +kernel
theorem dX1_readProof_22 : decode prog_3_method_8_code 22 = .ok (.getfield 27, 3) := by decide +kernel
theorem dX1_readProof_25 : decode prog_3_method_8_code 25 = .ok (.invokevirtual 108, 3) := by decide +kernel
theorem dX1_readProof_28 : decode prog_3_method_8_code 28 = .ok (.aload_n 0, 1) := by decide +kernel
theorem dX1_readProof_29 : decode prog_3_method_8_code 29 = .ok (.aload_n 0, 1) := by decide +kernel
theorem dX1_readProof_30 : decode prog_3_method_8_code 30 = .ok (.getfield 42, 3) := by decide +kernel
theorem dX1_readProof_33 : decode prog_3_method_8_code 33 = .ok (.invokevirtual 89, 3) := by decide +kernel
theorem dX1_readProof_36 : decode prog_3_method_8_code 36 = .ok (.istore_n 1, 1) := by decide +kernel
theorem dX1_readProof_37 : decode prog_3_method_8_code 37 = .ok (.iload_n 1, 1) := by decide +kernel
theorem dX1_readProof_38 : decode prog_3_method_8_code 38 = .ok (.iconst (-1), 1) := by decide +kernel
theorem dX1_readProof_39 : decode prog_3_method_8_code 39 = .ok (.if_icmp .ne 12, 3) := by decide +kernel
theorem dX1_readProof_42 : decode prog_3_method_8_code 42 = .ok (.aload_n 0, 1) := by decide +kernel
theorem dX1_readProof_43 : decode prog_3_method_8_code 43 = .ok (.getfield 27, 3) := by decide +kernel
theorem dX1_readProof_46 : decode prog_3_method_8_code 46 = .ok (.iconst 1, 1) := by decide +kernel
theorem dX1_readProof_47 : decode prog_3_method_8_code 47 = .ok (.invokevirtual 105, 3) := by decide +kernel
theorem dX1_readProof_50 : decode prog_3_method_8_code 50 = .ok (.ireturn, 1) := by decide +kernel
theorem dX1_readProof_51 : decode prog_3_method_8_code 51 = .ok (.aload_n 0, 1) := by decide +kernel
theorem dX1_readProof_52 : decode prog_3_method_8_code 52 = .ok (.getfield 27, 3) := by decide +kernel
theorem dX1_readProof_55 : decode prog_3_method_8_code 55 = .ok (.invokevirtual 108, 3) := by decide +kernel
theorem dX1_readProof_58 : decode prog_3_method_8_code 58 = .ok (.aload_n 0, 1) := by decide +kernel
theorem dX1_readProof_59 : decode prog_3_method_8_code 59 = .ok (.iconst 0, 1) := by decide +kernel
theorem dX1_readProof_60 : decode prog_3_method_8_code 60 = .ok (.bipush 99, 2) := by decide +kernel
theorem dX1_readProof_62 : decode prog_3_method_8_code 62 = .ok (.invokevirtual 121, 3) := by decide +kernel
theorem dX1_readProof_65 : decode prog_3_method_8_code 65 = .ok (.ifCond .ne 5, 3) := by decide +kernel
theorem dX1_readProof_68 : decode prog_3_method_8_code 68 = .ok (.iconst 0, 1) := by decide +kernel
theorem dX1_readProof_69 : decode prog_3_method_8_code 69 = .ok (.ireturn, 1) := by decide +kernel
theorem dX1_readProof_70 : decode prog_3_method_8_code 70 = .ok (.aload_n 0, 1) := by decide +kernel
theorem dX1_readProof_71 : decode prog_3_method_8_code 71 = .ok (.getfield 27, 3) := by decide +kernel
theorem dX1_readProof_74 : decode prog_3_method_8_code 74 = .ok (.invokevirtual 125, 3) := by decide +kernel
theorem dX1_readProof_77 : decode prog_3_method_8_code 77 = .ok (.istore_n 2, 1) := by decide +kernel
theorem dX1_readProof_78 : decode prog_3_method_8_code 78 = .ok (.aload_n 0, 1) := by decide +kernel
theorem dX1_readProof_79 : decode prog_3_method_8_code 79 = .ok (.getfield 27, 3) := by decide +kernel
theorem dX1_readProof_82 : decode prog_3_method_8_code 82 = .ok (.invokevirtual 108, 3) := by decide +kernel
theorem dX1_readProof_85 : decode prog_3_method_8_code 85 = .ok (.aload_n 0, 1) := by decide +kernel
theorem dX1_readProof_86 : decode prog_3_method_8_code 86 = .ok (.getfield 27, 3) := by decide +kernel
theorem dX1_readProof_89 : decode prog_3_method_8_code 89 = .ok (.aload_n 0, 1) := by decide +kernel
theorem dX1_readProof_90 : decode prog_3_method_8_code 90 = .ok (.getfield 47, 3) := by decide +kernel
theorem dX1_readProof_93 : decode prog_3_method_8_code 93 = .ok (.bipush 6, 2) := by decide +kernel
theorem dX1_readProof_95 : decode prog_3_method_8_code 95 = .ok (.laload, 1) := by decide +kernel
theorem dX1_readProof_96 : decode prog_3_method_8_code 96 = .ok (.invokevirtual 132, 3) := by decide +kernel
theorem dX1_readProof_99 : decode prog_3_method_8_code 99 = .ok (.ifCond .eq 19, 3) := by decide +kernel
theorem dX1_readProof_102 : decode prog_3_method_8_code 102 = .ok (.aload_n 0, 1) := by decide +kernel
theorem dX1_readProof_103 : decode prog_3_method_8_code 103 = .ok (.getfield 27, 3) := by decide +kernel
theorem dX1_readProof_106 : decode prog_3_method_8_code 106 = .ok (.invokevirtual 108, 3) := by decide +kernel
theorem dX1_readProof_109 : decode prog_3_method_8_code 109 = .ok (.aload_n 0, 1) := by decide +kernel
theorem dX1_readProof_110 : decode prog_3_method_8_code 110 = .ok (.invokevirtual 136, 3) := by decide +kernel
theorem dX1_readProof_113 : decode prog_3_method_8_code 113 = .ok (.ifCond .ne 5, 3) := by decide +kernel
theorem dX1_readProof_116 : decode prog_3_method_8_code 116 = .ok (.iconst 0, 1) := by decide +kernel
theorem dX1_readProof_117 : decode prog_3_method_8_code 117 = .ok (.ireturn, 1) := by decide +kernel
theorem dX1_readProof_118 : decode prog_3_method_8_code 118 = .ok (.aload_n 0, 1) := by decide +kernel
theorem dX1_readProof_119 : decode prog_3_method_8_code 119 = .ok (.getfield 51, 3) := by decide +kernel
theorem dX1_readProof_122 : decode prog_3_method_8_code 122 = .ok (.iload_n 1, 1) := by decide +kernel
theorem dX1_readProof_123 : decode prog_3_method_8_code 123 = .ok (.iload_n 2, 1) := by decide +kernel
theorem dX1_readProof_124 : decode prog_3_method_8_code 124 = .ok (.aload_n 0, 1) := by decide +kernel
theorem dX1_readProof_125 : decode prog_3_method_8_code 125 = .ok (.getfield 66, 3) := by decide +kernel
theorem dX1_readProof_128 : decode prog_3_method_8_code 128 = .ok (.invokevirtual 139, 3) := by decide +kernel
theorem dX1_readProof_131 : decode prog_3_method_8_code 131 = .ok (.iconst 1, 1) := by decide +kernel
theorem dX1_readProof_132 : decode prog_3_method_8_code 132 = .ok (.ireturn, 1) := by decide +kernel
noncomputable def F_X1_readProof_b118 (v1 : Int) (v2 : Int) (M : bM) : Option (Int × bM) :=
  b_g (12 ≤ (M 4 8).toNat ∧ (M 4 8).toNat < 22) (b_bind (F_X0_addProof_a ((M 4 8).toNat) v1 v2 (M 4 9) M) (fun M15 => some (1, M15)))
theorem t_X1_readProof_b118 {l : Launch} {E : bE} {Q : (Int × bM) → Prop} {v1 : Int} {v2 : Int} {M : bM} (h : b_wp (F_X1_readProof_b118 v1 v2 M) (Q)) : V l E xX1_readProof (0, 0) 118 [(0, bR 4), (1, bI v1), (2, bI v2)] [] M (b_pI Q) := by
  unfold F_X1_readProof_b118 at h
  obtain ⟨g14, h⟩ := b_wp_g h
  refine v_aload_n (f := 0) 0 rfl dX1_readProof_118 ?_
  refine v_getD (kf := 8) (kz := 8) rfl kd_4 rfl ⟨by decide, by decide⟩ rfl wf_1_51 dX1_readProof_119 ?_
  refine v_iload_n (f := 1) 1 rfl dX1_readProof_122 ?_
  refine v_iload_n (f := 2) 2 rfl dX1_readProof_123 ?_
  refine v_aload_n (f := 0) 0 rfl dX1_readProof_124 ?_
  refine v_getI (kf := 9) (kz := 9) rfl kd_4 rfl ⟨by decide, by decide⟩ rfl wf_1_66 dX1_readProof_125 ?_
  refine v_cVV (nA := 3) (As := [bI _, bI _, bI _]) (ix := 139) (cf_X0_addProof_a (b_wp_b h)) rfl (kd_act0 g14) rfl rfl wc_X0_addProof wm_1_139 wi_X0_addProof ws_X0_addProof wn_0 ⟨by decide, by decide, by decide⟩ rfl ⟨by decide, by decide⟩ ⟨by decide, by decide⟩ (Nat.le_of_ble_eq_true rfl) dX1_readProof_128 (fun M15 h => ?_)
  refine v_iconst ⟨by decide, by decide⟩ dX1_readProof_131 ?_
  refine v_zreturn rfl (Or.inr rfl) dX1_readProof_132 ⟨by decide, by decide⟩ ?_
  exact ⟨_, rfl, h⟩
noncomputable def F_X1_readProof (M : bM) : Option (Int × bM) :=
  b_g (12 ≤ (M 4 8).toNat ∧ (M 4 8).toNat < 22) (if (M (M 4 8).toNat 1) < 24 then (b_bind (F_X10_step M) (fun M3 => b_bind (F_X1_placeOf_105 M3) (fun x4 => if x4 = (-1) then (b_bind (F_X10_wrong 1 M3) (fun t => b_two t (fun x20 M21 => b_g (x20 = 0 ∨ x20 = 1) (some (x20, M21))))) else (b_bind (F_X10_step M3) (fun M6 => b_bind (F_X1_isNumber 0 99 M6) (fun t => b_two t (fun x7 M8 => if x7 = 0 then (some (0, M8)) else (b_bind (F_X10_number M8) (fun x10 => b_bind (F_X10_step M8) (fun M11 => b_bind (F_X10_isWord (M11 106 6) M11) (fun x12 => if x12 = 0 then (F_X1_readProof_b118 x4 x10 M11) else (b_bind (F_X10_step M11) (fun M16 => b_bind (F_X1_readCond M16) (fun t => b_two t (fun x17 M18 => if x17 = 0 then (some (0, M18)) else (F_X1_readProof_b118 x4 x10 M18)))))))))))))))) else (b_bind (F_X10_wrong 4 M) (fun t => b_two t (fun x23 M24 => b_g (x23 = 0 ∨ x23 = 1) (some (x23, M24))))))
theorem t_X1_readProof {l : Launch} {E : bE} {Q : (Int × bM) → Prop} {M : bM} (h : b_wp (F_X1_readProof M) (Q)) : V l E xX1_readProof (0, 0) 0 [(0, bR 4)] [] M (b_pI Q) := by
  unfold F_X1_readProof at h
  obtain ⟨g1, h⟩ := b_wp_g h
  refine v_aload_n (f := 0) 0 rfl dX1_readProof_0 ?_
  refine v_getD (kf := 8) (kz := 8) rfl kd_4 rfl ⟨by decide, by decide⟩ rfl wf_1_51 dX1_readProof_1 ?_
  refine v_getI (kf := 1) (kz := 1) rfl (kd_act0 g1) rfl ⟨by decide, by decide⟩ rfl wf_1_129 dX1_readProof_4 ?_
  refine v_bipush ⟨by decide, by decide⟩ (by decide) dX1_readProof_7 ?_
  refine v_icmp_lt (tgt := 21) dX1_readProof_9 (by decide) (fun c2 => ?_) (fun c2 => ?_)
  · replace h := b_wp_t c2 h
    refine v_aload_n (f := 0) 0 rfl dX1_readProof_21 ?_
    refine v_getR (kf := 1) (kz := 1) rfl kd_4 rfl ⟨by decide, by decide⟩ rfl wf_1_27 dX1_readProof_22 ?_
    refine v_cVV (nA := 0) (As := []) (ix := 108) (cf_X10_step (b_wp_b h)) rfl kd_1 rfl rfl wc_X10_step wm_1_108 wi_X10_step ws_X10_step wn_10 ⟨by decide, by decide, by decide⟩ rfl ⟨by decide, by decide⟩ ⟨by decide, by decide⟩ (Nat.le_of_ble_eq_true rfl) dX1_readProof_25 (fun M3 h => ?_)
    refine v_aload_n (f := 0) 0 rfl dX1_readProof_28 ?_
    refine v_aload_n (f := 0) 0 rfl dX1_readProof_29 ?_
    refine v_getR (kf := 3) (kz := 3) rfl kd_4 rfl ⟨by decide, by decide⟩ rfl wf_1_42 dX1_readProof_30 ?_
    refine v_cVIp (nA := 1) (As := [bR _]) (ix := 89) (cf_X1_placeOf_105 (b_wp_b h)) rfl kd_4 rfl rfl wc_X1_placeOf wm_1_89 wi_X1_placeOf ws_X1_placeOf wn_1 ⟨by decide, by decide, by decide⟩ rfl ⟨by decide, by decide⟩ ⟨by decide, by decide⟩ (Nat.le_of_ble_eq_true rfl) dX1_readProof_33 (fun x4 h => ?_)
    refine v_istore_n (g := 1) (i := 1) (ls' := [(1, bI _), (0, bR _)]) rfl (by decide) dX1_readProof_36 rfl ?_
    refine v_iload_n (f := 1) 0 rfl dX1_readProof_37 ?_
    refine v_iconst ⟨by decide, by decide⟩ dX1_readProof_38 ?_
    refine v_icmp_ne (tgt := 51) dX1_readProof_39 (by decide) (fun c5 => ?_) (fun c5 => ?_)
    · replace h := b_wp_f c5 h
      refine v_aload_n (f := 0) 1 rfl dX1_readProof_51 ?_
      refine v_getR (kf := 1) (kz := 1) rfl kd_4 rfl ⟨by decide, by decide⟩ rfl wf_1_27 dX1_readProof_52 ?_
      refine v_cVV (nA := 0) (As := []) (ix := 108) (cf_X10_step (b_wp_b h)) rfl kd_1 rfl rfl wc_X10_step wm_1_108 wi_X10_step ws_X10_step wn_10 ⟨by decide, by decide, by decide⟩ rfl ⟨by decide, by decide⟩ ⟨by decide, by decide⟩ (Nat.le_of_ble_eq_true rfl) dX1_readProof_55 (fun M6 h => ?_)
      refine v_aload_n (f := 0) 1 rfl dX1_readProof_58 ?_
      refine v_iconst ⟨by decide, by decide⟩ dX1_readProof_59 ?_
      refine v_bipush ⟨by decide, by decide⟩ (by decide) dX1_readProof_60 ?_
      refine v_cVI (nA := 2) (As := [bI _, bI _]) (ix := 121) (cf_X1_isNumber (b_wp_b h)) rfl kd_4 rfl rfl wc_X1_isNumber wm_1_121 wi_X1_isNumber ws_X1_isNumber wn_1 ⟨by decide, by decide, by decide⟩ rfl ⟨by decide, by decide⟩ ⟨by decide, by decide⟩ (Nat.le_of_ble_eq_true rfl) dX1_readProof_62 (fun x7 M8 h => ?_)
      replace h := b_wp_two h
      refine v_if_ne (tgt := 70) dX1_readProof_65 (by decide) (fun c9 => ?_) (fun c9 => ?_)
      · replace h := b_wp_f c9 h
        refine v_aload_n (f := 0) 1 rfl dX1_readProof_70 ?_
        refine v_getR (kf := 1) (kz := 1) rfl kd_4 rfl ⟨by decide, by decide⟩ rfl wf_1_27 dX1_readProof_71 ?_
        refine v_cVIp (nA := 0) (As := []) (ix := 125) (cf_X10_number (b_wp_b h)) rfl kd_1 rfl rfl wc_X10_number wm_1_125 wi_X10_number ws_X10_number wn_10 ⟨by decide, by decide, by decide⟩ rfl ⟨by decide, by decide⟩ ⟨by decide, by decide⟩ (Nat.le_of_ble_eq_true rfl) dX1_readProof_74 (fun x10 h => ?_)
        refine v_istore_n (g := 2) (i := 2) (ls' := [(2, bI _), (1, bI _), (0, bR _)]) rfl (by decide) dX1_readProof_77 rfl ?_
        refine v_aload_n (f := 0) 2 rfl dX1_readProof_78 ?_
        refine v_getR (kf := 1) (kz := 1) rfl kd_4 rfl ⟨by decide, by decide⟩ rfl wf_1_27 dX1_readProof_79 ?_
        refine v_cVV (nA := 0) (As := []) (ix := 108) (cf_X10_step (b_wp_b h)) rfl kd_1 rfl rfl wc_X10_step wm_1_108 wi_X10_step ws_X10_step wn_10 ⟨by decide, by decide, by decide⟩ rfl ⟨by decide, by decide⟩ ⟨by decide, by decide⟩ (Nat.le_of_ble_eq_true rfl) dX1_readProof_82 (fun M11 h => ?_)
        refine v_aload_n (f := 0) 2 rfl dX1_readProof_85 ?_
        refine v_getR (kf := 1) (kz := 1) rfl kd_4 rfl ⟨by decide, by decide⟩ rfl wf_1_27 dX1_readProof_86 ?_
        refine v_aload_n (f := 0) 2 rfl dX1_readProof_89 ?_
        refine v_getR (kf := 4) (kz := 4) rfl kd_4 rfl ⟨by decide, by decide⟩ rfl wf_1_47 dX1_readProof_90 ?_
        refine v_bipush ⟨by decide, by decide⟩ (by decide) dX1_readProof_93 ?_
        refine v_laload kd_106 ⟨by decide, by decide⟩ (by decide) dX1_readProof_95 ?_
        refine v_cVIp (nA := 1) (As := [bJ _]) (ix := 132) (cf_X10_isWord (b_wp_b h)) rfl kd_1 rfl rfl wc_X10_isWord wm_1_132 wi_X10_isWord ws_X10_isWord wn_10 ⟨by decide, by decide, by decide⟩ rfl ⟨by decide, by decide⟩ ⟨by decide, by decide⟩ (Nat.le_of_ble_eq_true rfl) dX1_readProof_96 (fun x12 h => ?_)
        refine v_if_eq (tgt := 118) dX1_readProof_99 (by decide) (fun c13 => ?_) (fun c13 => ?_)
        · replace h := b_wp_t c13 h
          refine v_sub (ls2 := [(0, bR _), (1, bI _), (2, bI _)]) [2, 1, 0] rfl ?_
          exact t_X1_readProof_b118 h
        · replace h := b_wp_f c13 h
          refine v_aload_n (f := 0) 2 rfl dX1_readProof_102 ?_
          refine v_getR (kf := 1) (kz := 1) rfl kd_4 rfl ⟨by decide, by decide⟩ rfl wf_1_27 dX1_readProof_103 ?_
          refine v_cVV (nA := 0) (As := []) (ix := 108) (cf_X10_step (b_wp_b h)) rfl kd_1 rfl rfl wc_X10_step wm_1_108 wi_X10_step ws_X10_step wn_10 ⟨by decide, by decide, by decide⟩ rfl ⟨by decide, by decide⟩ ⟨by decide, by decide⟩ (Nat.le_of_ble_eq_true rfl) dX1_readProof_106 (fun M16 h => ?_)
          refine v_aload_n (f := 0) 2 rfl dX1_readProof_109 ?_
          refine v_cVI (nA := 0) (As := []) (ix := 136) (cf_X1_readCond (b_wp_b h)) rfl kd_4 rfl rfl wc_X1_readCond wm_1_136 wi_X1_readCond ws_X1_readCond wn_1 ⟨by decide, by decide, by decide⟩ rfl ⟨by decide, by decide⟩ ⟨by decide, by decide⟩ (Nat.le_of_ble_eq_true rfl) dX1_readProof_110 (fun x17 M18 h => ?_)
          replace h := b_wp_two h
          refine v_if_ne (tgt := 118) dX1_readProof_113 (by decide) (fun c19 => ?_) (fun c19 => ?_)
          · replace h := b_wp_f c19 h
            refine v_sub (ls2 := [(0, bR _), (1, bI _), (2, bI _)]) [2, 1, 0] rfl ?_
            exact t_X1_readProof_b118 h
          · replace h := b_wp_t c19 h
            refine v_iconst ⟨by decide, by decide⟩ dX1_readProof_116 ?_
            refine v_zreturn rfl (Or.inl rfl) dX1_readProof_117 ⟨by decide, by decide⟩ ?_
            exact ⟨_, rfl, h⟩
      · replace h := b_wp_t c9 h
        refine v_iconst ⟨by decide, by decide⟩ dX1_readProof_68 ?_
        refine v_zreturn rfl (Or.inl rfl) dX1_readProof_69 ⟨by decide, by decide⟩ ?_
        exact ⟨_, rfl, h⟩
    · replace h := b_wp_t c5 h
      refine v_aload_n (f := 0) 1 rfl dX1_readProof_42 ?_
      refine v_getR (kf := 1) (kz := 1) rfl kd_4 rfl ⟨by decide, by decide⟩ rfl wf_1_27 dX1_readProof_43 ?_
      refine v_iconst ⟨by decide, by decide⟩ dX1_readProof_46 ?_
      refine v_cVI (nA := 1) (As := [bI _]) (ix := 105) (cf_X10_wrong (b_wp_b h)) rfl kd_1 rfl rfl wc_X10_wrong wm_1_105 wi_X10_wrong ws_X10_wrong wn_10 ⟨by decide, by decide, by decide⟩ rfl ⟨by decide, by decide⟩ ⟨by decide, by decide⟩ (Nat.le_of_ble_eq_true rfl) dX1_readProof_47 (fun x20 M21 h => ?_)
      replace h := b_wp_two h
      obtain ⟨g22, h⟩ := b_wp_g h
      refine v_zreturn rfl g22 dX1_readProof_50 ⟨by decide, by decide⟩ ?_
      exact ⟨_, rfl, h⟩
  · replace h := b_wp_f c2 h
    refine v_aload_n (f := 0) 0 rfl dX1_readProof_12 ?_
    refine v_getR (kf := 1) (kz := 1) rfl kd_4 rfl ⟨by decide, by decide⟩ rfl wf_1_27 dX1_readProof_13 ?_
    refine v_iconst ⟨by decide, by decide⟩ dX1_readProof_16 ?_
    refine v_cVI (nA := 1) (As := [bI _]) (ix := 105) (cf_X10_wrong (b_wp_b h)) rfl kd_1 rfl rfl wc_X10_wrong wm_1_105 wi_X10_wrong ws_X10_wrong wn_10 ⟨by decide, by decide, by decide⟩ rfl ⟨by decide, by decide⟩ ⟨by decide, by decide⟩ (Nat.le_of_ble_eq_true rfl) dX1_readProof_17 (fun x23 M24 h => ?_)
    replace h := b_wp_two h
    obtain ⟨g25, h⟩ := b_wp_g h
    refine v_zreturn rfl g25 dX1_readProof_20 ⟨by decide, by decide⟩ ?_
    exact ⟨_, rfl, h⟩
theorem cf_X1_readProof {l : Launch} {E : bE} {M : bM} {Q : (Int × bM) → Prop} (h : b_wp (F_X1_readProof M) Q) : b_C l E xX1_readProof yX1_readProof [bR 4] M (b_pI Q) := b_met (by decide) ⟨rfl, rfl⟩ (Nat.le_of_ble_eq_true rfl) (fun _ _ => t_X1_readProof h)
abbrev xX1_read : bX := ("BurntHall$Acts", prog_3_method_6_code, 3, (Option.some Jvm.ClassFile.FieldType.int), b_rm 7 0 0, 0, "read")
abbrev yX1_read : MethodName := ⟨"BurntHall$Acts", "read", "()I"⟩
theorem dX1_read_0 : decode prog_3_method_6_code 0 = .ok (.aload_n 0, 1) := by decide +kernel
theorem dX1_read_1 : decode prog_3_method_6_code 1 = .ok (.getfield 27, 3) := by decide +kernel
theorem dX1_read_4 : decode prog_3_method_6_code 4 = .ok (.invokevirtual 73, 3) := by decide +kernel
theorem dX1_read_7 : decode prog_3_method_6_code 7 = .ok (.aload_n 0, 1) := by decide +kernel
theorem dX1_read_8 : decode prog_3_method_6_code 8 = .ok (.aload_n 0, 1) := by decide +kernel
theorem dX1_read_9 : decode prog_3_method_6_code 9 = .ok (.aload_n 0, 1) := by decide +kernel
theorem dX1_read_10 : decode prog_3_method_6_code 10 = .ok (.getfield 55, 3) := by decide +kernel
theorem dX1_read_13 : decode prog_3_method_6_code 13 = .ok (.iconst 1, 1) := by decide +kernel
theorem dX1_read_14 : decode prog_3_method_6_code 14 = .ok (.iadd, 1) := by decide +kernel
theorem dX1_read_15 : decode prog_3_method_6_code 15 = .ok (.invokevirtual 76, 3) := by decide +kernel
theorem dX1_read_18 : decode prog_3_method_6_code 18 = .ok (.putfield 51, 3) := by decide +kernel
theorem dX1_read_21 : decode prog_3_method_6_code 21 = .ok (.aload_n 0, 1) := by decide +kernel
theorem dX1_read_22 : decode prog_3_method_6_code 22 = .ok (.getfield 51, 3) := by decide +kernel
theorem dX1_read_25 : decode prog_3_method_6_code 25 = .ok (.invokevirtual 80, 3) := by decide +kernel
theorem dX1_read_28 : decode prog_3_method_6_code 28 = .ok (.aload_n 0, 1) := by decide +kernel
theorem dX1_read_29 : decode prog_3_method_6_code 29 = .ok (.iconst 0, 1) := by decide +kernel
theorem dX1_read_30 : decode prog_3_method_6_code 30 = .ok (.putfield 66, 3) := by decide +kernel
theorem dX1_read_33 : decode prog_3_method_6_code 33 = .ok (.aload_n 0, 1) := by decide +kernel
theorem dX1_read_34 : decode prog_3_method_6_code 34 = .ok (.iconst 0, 1) := by decide +kernel
theorem dX1_read_35 : decode prog_3_method_6_code 35 = .ok (.putfield 83, 3) := by decide +kernel
theorem dX1_read_38 : decode prog_3_method_6_code 38 = .ok (.iconst 0, 1) := by decide +kernel
theorem dX1_read_39 : decode prog_3_method_6_code 39 = .ok (.istore_n 1, 1) := by decide +kernel
theorem dX1_read_40 : decode prog_3_method_6_code 40 = .ok (.iload_n 1, 1) := by decide +kernel
theorem dX1_read_41 : decode prog_3_method_6_code 41 = .ok (.sipush 1000, 3) := by decide +kernel
theorem dX1_read_44 : decode prog_3_method_6_code 44 = .ok (.if_icmp .ge 86, 3) := by decide +kernel
theorem dX1_read_47 : decode prog_3_method_6_code 47 = .ok (.aload_n 0, 1) := by decide +kernel
theorem dX1_read_48 : decode prog_3_method_6_code 48 = .ok (.getfield 27, 3) := by decide +kernel
theorem dX1_read_51 : decode prog_3_method_6_code 51 = .ok (.getfield 86, 3) := by decide +kernel
theorem dX1_read_54 : decode prog_3_method_6_code 54 = .ok (.ifCond .ne 5, 3) := by decide +kernel
theorem dX1_read_57 : decode prog_3_method_6_code 57 = .ok (.iload_n 1, 1) := by decide +kernel
theorem dX1_read_58 : decode prog_3_method_6_code 58 = .ok (.ireturn, 1) := by decide +kernel
theorem dX1_read_59 : decode prog_3_method_6_code 59 = .ok (.aload_n 0, 1) := by decide +kernel
theorem dX1_read_60 : decode prog_3_method_6_code 60 = .ok (.aload_n 0, 1) := by decide +kernel
theorem dX1_read_61 : decode prog_3_method_6_code 61 = .ok (.getfield 37, 3) := by decide +kernel
theorem dX1_read_64 : decode prog_3_method_6_code 64 = .ok (.invokevirtual 89, 3) := by decide +kernel
theorem dX1_read_67 : decode prog_3_method_6_code 67 = .ok (.istore_n 2, 1) := by decide +kernel
theorem dX1_read_68 : decode prog_3_method_6_code 68 = .ok (.iload_n 2, 1) := by decide +kernel
theorem dX1_read_69 : decode prog_3_method_6_code 69 = .ok (.bipush 10, 2) := by decide +kernel
theorem dX1_read_71 : decode prog_3_method_6_code 71 = .ok (.if_icmp .ne 13, 3) := by decide +kernel
theorem dX1_read_74 : decode prog_3_method_6_code 74 = .ok (.aload_n 0, 1) := by decide +kernel
theorem dX1_read_75 : decode prog_3_method_6_code 75 = .ok (.invokevirtual 93, 3) := by decide +kernel
theorem dX1_read_78 : decode prog_3_method_6_code 78 = .ok (.ifCond .ne 16, 3) := by decide +kernel
theorem dX1_read_81 : decode prog_3_method_6_code 81 = .ok (.goto 11, 3) := by decide +kernel
theorem dX1_read_84 : decode prog_3_method_6_code 84 = .ok (.aload_n 0, 1) := by decide +kernel
theorem dX1_read_85 : decode prog_3_method_6_code 85 = .ok (.iload_n 2, 1) := by decide +kernel
theorem dX1_read_86 : decode prog_3_method_6_code 86 = .ok (.invokevirtual 97, 3) := by decide +kernel
theorem dX1_read_89 : decode prog_3_method_6_code 89 = .ok (.ifCond .ne 5, 3) := by decide +kernel
theorem dX1_read_92 : decode prog_3_method_6_code 92 = .ok (.iconst (-1), 1) := by decide +kernel
theorem dX1_read_93 : decode prog_3_method_6_code 93 = .ok (.ireturn, 1) := by decide +kernel
theorem dX1_read_94 : decode prog_3_method_6_code 94 = .ok (.aload_n 0, 1) := by decide +kernel
theorem dX1_read_95 : decode prog_3_method_6_code 95 = .ok (.getfield 27, 3) := by decide +kernel
theorem dX1_read_98 : decode prog_3_method_6_code 98 = .ok (.bipush 59, 2) := by decide +kernel
theorem dX1_read_100 : decode prog_3_method_6_code 100 = .ok (.invokevirtual 101, 3) := by decide +kernel
theorem dX1_read_103 : decode prog_3_method_6_code 103 = .ok (.ifCond .ne 14, 3) := by decide +kernel
theorem dX1_read_106 : decode prog_3_method_6_code 106 = .ok (.aload_n 0, 1) := by decide +kernel
theorem dX1_read_107 : decode prog_3_method_6_code 107 = .ok (.getfield 27, 3) := by decide +kernel
theorem dX1_read_110 : decode prog_3_method_6_code 110 = .ok (.iconst 1, 1) := by decide +kernel
theorem dX1_read_111 : decode prog_3_method_6_code 111 = .ok (.invokevirtual 105, 3) := by decide +kernel
theorem dX1_read_114 : decode prog_3_method_6_code 114 = .ok (.pop, 1) := by decide +kernel
theorem dX1_read_115 : decode prog_3_method_6_code 115 = .ok (.iconst (-1), 1) := by decide +kernel
theorem dX1_read_116 : decode prog_3_method_6_code 116 = .ok (.ireturn, 1) := by decide +kernel
theorem dX1_read_117 : decode prog_3_method_6_code 117 = .ok (.aload_n 0, 1) := by decide +kernel
theorem dX1_read_118 : decode prog_3_method_6_code 118 = .ok (.getfield 27, 3) := by decide +kernel
theorem dX1_read_121 : decode prog_3_method_6_code 121 = .ok (.invokevirtual 108, 3) := by decide +kernel
theorem dX1_read_124 : decode prog_3_method_6_code 124 = .ok (.iinc 1 1, 3) := by decide +kernel
theorem dX1_read_127 : decode prog_3_method_6_code 127 = .ok (.goto (-87), 3) := by decide +kernel
theorem dX1_read_130 : decode prog_3_method_6_code 130 = .ok (.iconst (-1), 1) := by decide +kernel
theorem dX1_read_131 : decode prog_3_method_6_code 131 = .ok (.ireturn, 1) := by decide +kernel
abbrev A_X1_read_40 (l : Launch) (E : bE) (Q : (Int × bM) → Prop) : (Int × bM) → Prop := (fun t : Int × bM => V l E xX1_read (0, 0) 40 [(0, bR 4), (1, bI (t.1))] [] t.2 (b_pI Q))
abbrev X_X1_read_40 (l : Launch) (E : bE) (Q : (Int × bM) → Prop) : ((bM) ⊕ (Int × bM)) → Prop := (Sum.elim (fun t : bM => V l E xX1_read (0, 0) 130 [] [] t (b_pI Q)) Q)
noncomputable def F_X1_read_b94 (v1 : Int) (M : bM) : Option ((Int × bM) ⊕ ((bM) ⊕ (Int × bM))) :=
  b_bind (F_X10_isSign 59 M) (fun x17 => if x17 = 0 then (b_bind (F_X10_wrong 1 M) (fun t => b_two t (fun x21 M22 => some (.inr (.inr ((-1), M22)))))) else (b_bind (F_X10_step M) (fun M19 => b_g (b_i32 (v1 + 1)) (some (.inl ((v1 + 1), M19))))))
theorem t_X1_read_b94 {l : Launch} {E : bE} {Q : (Int × bM) → Prop} {v1 : Int} {M : bM} (hfg : b_fg E) (h : b_wp (F_X1_read_b94 v1 M) (Sum.elim (A_X1_read_40 l E Q ) (X_X1_read_40 l E Q ))) : V l E xX1_read (0, 0) 94 [(0, bR 4), (1, bI v1)] [] M (b_pI Q) := by
  unfold F_X1_read_b94 at h
  refine v_aload_n (f := 0) 0 rfl dX1_read_94 ?_
  refine v_getR (kf := 1) (kz := 1) rfl kd_4 rfl ⟨by decide, by decide⟩ rfl wf_1_27 dX1_read_95 ?_
  refine v_bipush ⟨by decide, by decide⟩ (by decide) dX1_read_98 ?_
  refine v_cVIp (nA := 1) (As := [bI _]) (ix := 101) (cf_X10_isSign (b_wp_b h)) rfl kd_1 rfl rfl wc_X10_isSign wm_1_101 wi_X10_isSign ws_X10_isSign wn_10 ⟨by decide, by decide, by decide⟩ rfl ⟨by decide, by decide⟩ ⟨by decide, by decide⟩ (Nat.le_of_ble_eq_true rfl) dX1_read_100 (fun x17 h => ?_)
  refine v_if_ne (tgt := 117) dX1_read_103 (by decide) (fun c18 => ?_) (fun c18 => ?_)
  · replace h := b_wp_f c18 h
    refine v_aload_n (f := 0) 0 rfl dX1_read_117 ?_
    refine v_getR (kf := 1) (kz := 1) rfl kd_4 rfl ⟨by decide, by decide⟩ rfl wf_1_27 dX1_read_118 ?_
    refine v_cVV (nA := 0) (As := []) (ix := 108) (cf_X10_step (b_wp_b h)) rfl kd_1 rfl rfl wc_X10_step wm_1_108 wi_X10_step ws_X10_step wn_10 ⟨by decide, by decide, by decide⟩ rfl ⟨by decide, by decide⟩ ⟨by decide, by decide⟩ (Nat.le_of_ble_eq_true rfl) dX1_read_121 (fun M19 h => ?_)
    obtain ⟨g20, h⟩ := b_wp_g h
    refine v_iincN (ls' := [(1, bI _), (0, bR _)]) 1 rfl (by decide) g20 dX1_read_124 rfl ?_
    refine v_goto (tgt := 40) dX1_read_127 (by decide) ?_
    refine v_sub (ls2 := [(0, bR _), (1, bI _)]) [1, 0] rfl ?_
    exact h
  · replace h := b_wp_t c18 h
    refine v_aload_n (f := 0) 0 rfl dX1_read_106 ?_
    refine v_getR (kf := 1) (kz := 1) rfl kd_4 rfl ⟨by decide, by decide⟩ rfl wf_1_27 dX1_read_107 ?_
    refine v_iconst ⟨by decide, by decide⟩ dX1_read_110 ?_
    refine v_cVI (nA := 1) (As := [bI _]) (ix := 105) (cf_X10_wrong (b_wp_b h)) rfl kd_1 rfl rfl wc_X10_wrong wm_1_105 wi_X10_wrong ws_X10_wrong wn_10 ⟨by decide, by decide, by decide⟩ rfl ⟨by decide, by decide⟩ ⟨by decide, by decide⟩ (Nat.le_of_ble_eq_true rfl) dX1_read_111 (fun x21 M22 h => ?_)
    replace h := b_wp_two h
    refine v_pop rfl dX1_read_114 ?_
    refine v_iconst ⟨by decide, by decide⟩ dX1_read_115 ?_
    refine v_ireturn rfl dX1_read_116 ⟨by decide, by decide⟩ ?_
    exact ⟨_, rfl, h⟩
noncomputable def F_X1_read_s40 (v1 : Int) (M : bM) : Option ((Int × bM) ⊕ ((bM) ⊕ (Int × bM))) :=
  if 1000 ≤ v1 then (some (.inr (.inl (M)))) else (if (M 1 2) = 0 then (some (.inr (.inr (v1, M)))) else (b_bind (F_X1_placeOf_104 M) (fun x12 => if x12 = 10 then (b_bind (F_X1_readProof M) (fun t => b_two t (fun x23 M24 => if x23 = 0 then (some (.inr (.inr ((-1), M24)))) else (F_X1_read_b94 v1 M24)))) else (b_bind (F_X1_readRule x12 M) (fun t => b_two t (fun x14 M15 => if x14 = 0 then (some (.inr (.inr ((-1), M15)))) else (F_X1_read_b94 v1 M15)))))))
theorem t_X1_read_s40 {l : Launch} {E : bE} {Q : (Int × bM) → Prop} {v1 : Int} {M : bM} (hfg : b_fg E) (h : b_wp (F_X1_read_s40 v1 M) (Sum.elim (A_X1_read_40 l E Q ) (X_X1_read_40 l E Q ))) : V l E xX1_read (0, 0) 40 [(0, bR 4), (1, bI v1)] [] M (b_pI Q) := by
  unfold F_X1_read_s40 at h
  refine v_iload_n (f := 1) 1 rfl dX1_read_40 ?_
  refine v_sipush ⟨by decide, by decide⟩ (by decide) dX1_read_41 ?_
  refine v_icmp_ge (tgt := 130) dX1_read_44 (by decide) (fun c10 => ?_) (fun c10 => ?_)
  · replace h := b_wp_t c10 h
    refine v_sub (ls2 := []) [] rfl ?_
    exact h
  · replace h := b_wp_f c10 h
    refine v_aload_n (f := 0) 0 rfl dX1_read_47 ?_
    refine v_getR (kf := 1) (kz := 1) rfl kd_4 rfl ⟨by decide, by decide⟩ rfl wf_1_27 dX1_read_48 ?_
    refine v_getI (kf := 2) (kz := 2) rfl kd_1 rfl ⟨by decide, by decide⟩ rfl wf_1_86 dX1_read_51 ?_
    refine v_if_ne (tgt := 59) dX1_read_54 (by decide) (fun c11 => ?_) (fun c11 => ?_)
    · replace h := b_wp_f c11 h
      refine v_aload_n (f := 0) 0 rfl dX1_read_59 ?_
      refine v_aload_n (f := 0) 0 rfl dX1_read_60 ?_
      refine v_getR (kf := 2) (kz := 2) rfl kd_4 rfl ⟨by decide, by decide⟩ rfl wf_1_37 dX1_read_61 ?_
      refine v_cVIp (nA := 1) (As := [bR _]) (ix := 89) (cf_X1_placeOf_104 (b_wp_b h)) rfl kd_4 rfl rfl wc_X1_placeOf wm_1_89 wi_X1_placeOf ws_X1_placeOf wn_1 ⟨by decide, by decide, by decide⟩ rfl ⟨by decide, by decide⟩ ⟨by decide, by decide⟩ (Nat.le_of_ble_eq_true rfl) dX1_read_64 (fun x12 h => ?_)
      refine v_istore_n (g := 2) (i := 2) (ls' := [(2, bI _), (0, bR _), (1, bI _)]) rfl (by decide) dX1_read_67 rfl ?_
      refine v_iload_n (f := 2) 0 rfl dX1_read_68 ?_
      refine v_bipush ⟨by decide, by decide⟩ (by decide) dX1_read_69 ?_
      refine v_icmp_ne (tgt := 84) dX1_read_71 (by decide) (fun c13 => ?_) (fun c13 => ?_)
      · replace h := b_wp_f c13 h
        refine v_aload_n (f := 0) 1 rfl dX1_read_84 ?_
        refine v_iload_n (f := 2) 0 rfl dX1_read_85 ?_
        refine v_cVI (nA := 1) (As := [bI _]) (ix := 97) (cf_X1_readRule hfg (b_wp_b h)) rfl kd_4 rfl rfl wc_X1_readRule wm_1_97 wi_X1_readRule ws_X1_readRule wn_1 ⟨by decide, by decide, by decide⟩ rfl ⟨by decide, by decide⟩ ⟨by decide, by decide⟩ (Nat.le_of_ble_eq_true rfl) dX1_read_86 (fun x14 M15 h => ?_)
        replace h := b_wp_two h
        refine v_if_ne (tgt := 94) dX1_read_89 (by decide) (fun c16 => ?_) (fun c16 => ?_)
        · replace h := b_wp_f c16 h
          refine v_sub (ls2 := [(0, bR _), (1, bI _)]) [1, 2] rfl ?_
          exact t_X1_read_b94 hfg h
        · replace h := b_wp_t c16 h
          refine v_iconst ⟨by decide, by decide⟩ dX1_read_92 ?_
          refine v_ireturn rfl dX1_read_93 ⟨by decide, by decide⟩ ?_
          exact ⟨_, rfl, h⟩
      · replace h := b_wp_t c13 h
        refine v_aload_n (f := 0) 1 rfl dX1_read_74 ?_
        refine v_cVI (nA := 0) (As := []) (ix := 93) (cf_X1_readProof (b_wp_b h)) rfl kd_4 rfl rfl wc_X1_readProof wm_1_93 wi_X1_readProof ws_X1_readProof wn_1 ⟨by decide, by decide, by decide⟩ rfl ⟨by decide, by decide⟩ ⟨by decide, by decide⟩ (Nat.le_of_ble_eq_true rfl) dX1_read_75 (fun x23 M24 h => ?_)
        replace h := b_wp_two h
        refine v_if_ne (tgt := 94) dX1_read_78 (by decide) (fun c25 => ?_) (fun c25 => ?_)
        · replace h := b_wp_f c25 h
          refine v_sub (ls2 := [(0, bR _), (1, bI _)]) [1, 2] rfl ?_
          exact t_X1_read_b94 hfg h
        · replace h := b_wp_t c25 h
          refine v_goto (tgt := 92) dX1_read_81 (by decide) ?_
          refine v_iconst ⟨by decide, by decide⟩ dX1_read_92 ?_
          refine v_ireturn rfl dX1_read_93 ⟨by decide, by decide⟩ ?_
          exact ⟨_, rfl, h⟩
    · replace h := b_wp_t c11 h
      refine v_iload_n (f := 1) 1 rfl dX1_read_57 ?_
      refine v_ireturn rfl dX1_read_58 ⟨by decide, by decide⟩ ?_
      exact ⟨_, rfl, h⟩
theorem l_X1_read_40 {l : Launch} {E : bE} {Q : (Int × bM) → Prop} (hfg : b_fg E) {s : Int × bM} (h : b_wp (b_loop (fun t => F_X1_read_s40 t.1 t.2) s) (X_X1_read_40 l E Q )) : A_X1_read_40 l E Q  s := b_loop_wp (fun t h => t_X1_read_s40 hfg h) s h
noncomputable def F_X1_read_b130 (M : bM) : Option (Int × bM) :=
  some ((-1), M)
theorem t_X1_read_b130 {l : Launch} {E : bE} {Q : (Int × bM) → Prop} {M : bM} (hfg : b_fg E) (h : b_wp (F_X1_read_b130 M) (Q)) : V l E xX1_read (0, 0) 130 [] [] M (b_pI Q) := by
  unfold F_X1_read_b130 at h
  refine v_iconst ⟨by decide, by decide⟩ dX1_read_130 ?_
  refine v_ireturn rfl dX1_read_131 ⟨by decide, by decide⟩ ?_
  exact ⟨_, rfl, h⟩
noncomputable def F_X1_read (M : bM) : Option (Int × bM) :=
  b_bind (F_X10_begin M) (fun M1 => b_g (b_i32 ((M1 4 0) + 1)) (b_bind (F_X1_slot ((M1 4 0) + 1) M1) (fun x3 => b_g (12 ≤ x3 ∧ x3 < 22) (b_let (b_up M1 4 8 ((x3 : Nat) : Int)) (fun M5 => b_g (12 ≤ (M5 4 8).toNat ∧ (M5 4 8).toNat < 22) (b_bind (F_X0_reset_a ((M5 4 8).toNat) M5) (fun M7 => b_let (b_up M7 4 9 0) (fun M8 => b_let (b_up M8 4 10 0) (fun M9 => b_bind (b_loop (fun t => F_X1_read_s40 t.1 t.2) (0, M9)) (Sum.elim (fun t => F_X1_read_b130 t) some))))))))))
theorem t_X1_read {l : Launch} {E : bE} {Q : (Int × bM) → Prop} {M : bM} (hfg : b_fg E) (h : b_wp (F_X1_read M) (Q)) : V l E xX1_read (0, 0) 0 [(0, bR 4)] [] M (b_pI Q) := by
  unfold F_X1_read at h
  refine v_aload_n (f := 0) 0 rfl dX1_read_0 ?_
  refine v_getR (kf := 1) (kz := 1) rfl kd_4 rfl ⟨by decide, by decide⟩ rfl wf_1_27 dX1_read_1 ?_
  refine v_cVV (nA := 0) (As := []) (ix := 73) (cf_X10_begin (b_wp_b h)) rfl kd_1 rfl rfl wc_X10_begin wm_1_73 wi_X10_begin ws_X10_begin wn_10 ⟨by decide, by decide, by decide⟩ rfl ⟨by decide, by decide⟩ ⟨by decide, by decide⟩ (Nat.le_of_ble_eq_true rfl) dX1_read_4 (fun M1 h => ?_)
  obtain ⟨g2, h⟩ := b_wp_g h
  refine v_aload_n (f := 0) 0 rfl dX1_read_7 ?_
  refine v_aload_n (f := 0) 0 rfl dX1_read_8 ?_
  refine v_aload_n (f := 0) 0 rfl dX1_read_9 ?_
  refine v_getI (kf := 0) (kz := 0) rfl kd_4 rfl ⟨by decide, by decide⟩ rfl wf_1_55 dX1_read_10 ?_
  refine v_iconst ⟨by decide, by decide⟩ dX1_read_13 ?_
  refine v_iaddN g2 dX1_read_14 ?_
  refine v_cVAp (nA := 1) (As := [bI _]) (ix := 76) (cf_X1_slot (b_wp_b h)) rfl kd_4 rfl rfl wc_X1_slot wm_1_76 wi_X1_slot ws_X1_slot wn_1 ⟨by decide, by decide, by decide⟩ rfl ⟨by decide, by decide⟩ ⟨by decide, by decide⟩ (Nat.le_of_ble_eq_true rfl) dX1_read_15 (fun x3 h => ?_)
  obtain ⟨g4, h⟩ := b_wp_g h
  refine g_putD (kf := 8) (kz := 8) rfl (b_in kd_4 (by simp)) kd_4 rfl ⟨by decide, by decide⟩ rfl (b_in (kd_act0 g4) (by simp)) (by have := g4; omega) (by have := g4; omega) wf_1_51 rfl (ty := tyX1 8) rfl (fun _ => ⟨rfl, rfl⟩) dX1_read_18 ?_
  replace h := b_wp_l h
  obtain ⟨g6, h⟩ := b_wp_g h
  refine v_aload_n (f := 0) 0 rfl dX1_read_21 ?_
  refine v_getD (kf := 8) (kz := 8) rfl kd_4 rfl ⟨by decide, by decide⟩ rfl wf_1_51 dX1_read_22 ?_
  refine v_cVV (nA := 0) (As := []) (ix := 80) (cf_X0_reset_a hfg (b_wp_b h)) rfl (kd_act0 g6) rfl rfl wc_X0_reset wm_1_80 wi_X0_reset ws_X0_reset wn_0 ⟨by decide, by decide, by decide⟩ rfl ⟨by decide, by decide⟩ ⟨by decide, by decide⟩ (Nat.le_of_ble_eq_true rfl) dX1_read_25 (fun M7 h => ?_)
  refine v_aload_n (f := 0) 0 rfl dX1_read_28 ?_
  refine v_iconst ⟨by decide, by decide⟩ dX1_read_29 ?_
  refine v_putI (kf := 9) (kz := 9) rfl kd_4 rfl ⟨by decide, by decide⟩ rfl wf_1_66 rfl rfl dX1_read_30 ?_
  replace h := b_wp_l h
  refine v_aload_n (f := 0) 0 rfl dX1_read_33 ?_
  refine v_iconst ⟨by decide, by decide⟩ dX1_read_34 ?_
  refine v_putI (kf := 10) (kz := 10) rfl kd_4 rfl ⟨by decide, by decide⟩ rfl wf_1_83 rfl rfl dX1_read_35 ?_
  replace h := b_wp_l h
  refine v_iconst ⟨by decide, by decide⟩ dX1_read_38 ?_
  refine v_istore_n (g := 1) (i := 1) (ls' := [(1, bI _), (0, bR _)]) rfl (by decide) dX1_read_39 rfl ?_
  refine v_sub (ls2 := [(0, bR _), (1, bI _)]) [1, 0] rfl ?_
  refine l_X1_read_40 hfg (b_wp_m (fun t h => ?_) (b_wp_b h))
  cases t with
  | inr o => exact h
  | inl t =>
    show V l E xX1_read (0, 0) 130 [] [] _ (b_pI Q)
    replace h := b_wp_inl h
    exact t_X1_read_b130 hfg h
theorem cf_X1_read {l : Launch} {E : bE} {M : bM} (hfg : b_fg E) {Q : (Int × bM) → Prop} (h : b_wp (F_X1_read M) Q) : b_C l E xX1_read yX1_read [bR 4] M (b_pI Q) := b_met (by decide) ⟨rfl, rfl⟩ (Nat.le_of_ble_eq_true rfl) (fun _ _ => t_X1_read hfg h)
abbrev xX11_fault : bX := ("BurntHall", prog_1_method_26_code, 2, (Option.some Jvm.ClassFile.FieldType.int), b_rm 1 0 0, 0, "fault")
abbrev yX11_fault : MethodName := ⟨"BurntHall", "fault", "(I)I"⟩
theorem dX11_fault_0 : decode prog_1_method_26_code 0 = .ok (.iload_n 1, 1) := by decide +kernel
theorem dX11_fault_1 : decode prog_1_method_26_code 1 = .ok (.ifCond .ne 11, 3) := by decide +kernel
theorem dX11_fault_4 : decode prog_1_method_26_code 4 = .ok (.aload_n 0, 1) := by decide +kernel
theorem dX11_fault_5 : decode prog_1_method_26_code 5 = .ok (.getfield 10, 3) := by decide +kernel
theorem dX11_fault_8 : decode prog_1_method_26_code 8 = .ok (.getfield 222, 3) := by decide +kernel
theorem dX11_fault_11 : decode prog_1_method_26_code 11 = .ok (.ireturn, 1) := by decide +kernel
theorem dX11_fault_12 : decode prog_1_method_26_code 12 = .ok (.iload_n 1, 1) := by decide +kernel
theorem dX11_fault_13 : decode prog_1_method_26_code 13 = .ok (.iconst 1, 1) := by decide +kernel
theorem dX11_fault_14 : decode prog_1_method_26_code 14 = .ok (.if_icmp .ne 13, 3) := by decide +kernel
theorem dX11_fault_17 : decode prog_1_method_26_code 17 = .ok (.aload_n 0, 1) := by decide +kernel
theorem dX11_fault_18 : decode prog_1_method_26_code 18 = .ok (.getfield 10, 3) := by decide +kernel
theorem dX11_fault_21 : decode prog_1_method_26_code 21 = .ok (.getfield 225, 3) := by decide +kernel
theorem dX11_fault_24 : decode prog_1_method_26_code 24 = .ok (.goto 4, 3) := by decide +kernel
theorem dX11_fault_27 : decode prog_1_method_26_code 27 = .ok (.iconst (-1), 1) := by decide +kernel
theorem dX11_fault_28 : decode prog_1_method_26_code 28 = .ok (.ireturn, 1) := by decide +kernel
noncomputable def F_X11_fault (v1 : Int) (M : bM) : Option (Int) :=
  if v1 = 0 then (some (M 1 5)) else (if v1 = 1 then (some (M 1 6)) else (some (-1)))
theorem t_X11_fault {l : Launch} {E : bE} {Q : Int → Prop} {v1 : Int} {M : bM} (h : b_wp (F_X11_fault v1 M) (Q)) : V l E xX11_fault (0, 0) 0 [(0, bR 0), (1, bI v1)] [] M (b_pIp M Q) := by
  unfold F_X11_fault at h
  refine v_iload_n (f := 1) 1 rfl dX11_fault_0 ?_
  refine v_if_ne (tgt := 12) dX11_fault_1 (by decide) (fun c1 => ?_) (fun c1 => ?_)
  · replace h := b_wp_f c1 h
    refine v_iload_n (f := 1) 1 rfl dX11_fault_12 ?_
    refine v_iconst ⟨by decide, by decide⟩ dX11_fault_13 ?_
    refine v_icmp_ne (tgt := 27) dX11_fault_14 (by decide) (fun c2 => ?_) (fun c2 => ?_)
    · replace h := b_wp_f c2 h
      refine v_iconst ⟨by decide, by decide⟩ dX11_fault_27 ?_
      refine v_ireturn rfl dX11_fault_28 ⟨by decide, by decide⟩ ?_
      exact ⟨_, rfl, rfl, h⟩
    · replace h := b_wp_t c2 h
      refine v_aload_n (f := 0) 0 rfl dX11_fault_17 ?_
      refine v_getR (kf := 0) (kz := 0) rfl kd_0 rfl ⟨by decide, by decide⟩ rfl wf_11_10 dX11_fault_18 ?_
      refine v_getI (kf := 6) (kz := 6) rfl kd_1 rfl ⟨by decide, by decide⟩ rfl wf_11_225 dX11_fault_21 ?_
      refine v_goto (tgt := 28) dX11_fault_24 (by decide) ?_
      refine v_ireturn rfl dX11_fault_28 ⟨by decide, by decide⟩ ?_
      exact ⟨_, rfl, rfl, h⟩
  · replace h := b_wp_t c1 h
    refine v_aload_n (f := 0) 0 rfl dX11_fault_4 ?_
    refine v_getR (kf := 0) (kz := 0) rfl kd_0 rfl ⟨by decide, by decide⟩ rfl wf_11_10 dX11_fault_5 ?_
    refine v_getI (kf := 5) (kz := 5) rfl kd_1 rfl ⟨by decide, by decide⟩ rfl wf_11_222 dX11_fault_8 ?_
    refine v_ireturn rfl dX11_fault_11 ⟨by decide, by decide⟩ ?_
    exact ⟨_, rfl, rfl, h⟩
theorem cf_X11_fault {l : Launch} {E : bE} {M : bM} {v1 : Int} {Q : Int → Prop} (h : b_wp (F_X11_fault v1 M) Q) : b_C l E xX11_fault yX11_fault [bR 0, bI v1] M (b_pIp M Q) := b_met (by decide) ⟨rfl, rfl⟩ (Nat.le_of_ble_eq_true rfl) (fun _ _ => t_X11_fault h)
abbrev xX1_numberInForce : bX := ("BurntHall$Acts", prog_3_method_2_code, 3, (Option.some Jvm.ClassFile.FieldType.int), b_rm 1 0 0, 0, "numberInForce")
abbrev yX1_numberInForce : MethodName := ⟨"BurntHall$Acts", "numberInForce", "(I)I"⟩
theorem dX1_numberInForce_0 : decode prog_3_method_2_code 0 = .ok (.aload_n 0, 1) := by decide +kernel
theorem dX1_numberInForce_1 : decode prog_3_method_2_code 1 = .ok (.getfield 55, 3) := by decide +kernel
theorem dX1_numberInForce_4 : decode prog_3_method_2_code 4 = .ok (.istore_n 2, 1) := by decide +kernel
theorem dX1_numberInForce_5 : decode prog_3_method_2_code 5 = .ok (.iload_n 2, 1) := by decide +kernel
theorem dX1_numberInForce_6 : decode prog_3_method_2_code 6 = .ok (.ifCond .le 24, 3) := by decide +kernel
theorem dX1_numberInForce_9 : decode prog_3_method_2_code 9 = .ok (.aload_n 0, 1) := by decide +kernel
theorem dX1_numberInForce_10 : decode prog_3_method_2_code 10 = .ok (.getfield 13, 3) := by decide +kernel
theorem dX1_numberInForce_13 : decode prog_3_method_2_code 13 = .ok (.iload_n 2, 1) := by decide +kernel
theorem dX1_numberInForce_14 : decode prog_3_method_2_code 14 = .ok (.aaload, 1) := by decide +kernel
theorem dX1_numberInForce_15 : decode prog_3_method_2_code 15 = .ok (.getfield 59, 3) := by decide +kernel
theorem dX1_numberInForce_18 : decode prog_3_method_2_code 18 = .ok (.iload_n 1, 1) := by decide +kernel
theorem dX1_numberInForce_19 : decode prog_3_method_2_code 19 = .ok (.if_icmp .gt 5, 3) := by decide +kernel
theorem dX1_numberInForce_22 : decode prog_3_method_2_code 22 = .ok (.iload_n 2, 1) := by decide +kernel
theorem dX1_numberInForce_23 : decode prog_3_method_2_code 23 = .ok (.ireturn, 1) := by decide +kernel
theorem dX1_numberInForce_24 : decode prog_3_method_2_code 24 = .ok (.iinc 2 (-1), 3) := by decide +kernel
theorem dX1_numberInForce_27 : decode prog_3_method_2_code 27 = .ok (.goto (-22), 3) := by decide +kernel
theorem dX1_numberInForce_30 : decode prog_3_method_2_code 30 = .ok (.iconst 0, 1) := by decide +kernel
theorem dX1_numberInForce_31 : decode prog_3_method_2_code 31 = .ok (.ireturn, 1) := by decide +kernel
abbrev A_X1_numberInForce_5 (l : Launch) (E : bE) (Q : Int → Prop) (v1 : Int) (M : bM) : (Int) → Prop := (fun t : Int => V l E xX1_numberInForce (0, 0) 5 [(0, bR 4), (1, bI v1), (2, bI t)] [] M (b_pIp M Q))
abbrev X_X1_numberInForce_5 (l : Launch) (E : bE) (Q : Int → Prop) (v1 : Int) (M : bM) : ((Unit) ⊕ Int) → Prop := (Sum.elim (fun t : Unit => V l E xX1_numberInForce (0, 0) 30 [] [] M (b_pIp M Q)) Q)
noncomputable def F_X1_numberInForce_s5 (v1 : Int) (v2 : Int) (M : bM) : Option ((Int) ⊕ ((Unit) ⊕ Int)) :=
  if v2 ≤ 0 then (some (.inr (.inl ()))) else (b_g ((0 ≤ v2 ∧ v2 < 10) ∧ (12 ≤ (12 + v2.toNat) ∧ (12 + v2.toNat) < 22)) (if v1 < (M (12 + v2.toNat) 0) then (b_g (b_i32 (v2 + (-1))) (some (.inl ((v2 + (-1)))))) else (some (.inr (.inr v2)))))
theorem t_X1_numberInForce_s5 {l : Launch} {E : bE} {Q : Int → Prop} {v1 : Int} {v2 : Int} {M : bM} (h : b_wp (F_X1_numberInForce_s5 v1 v2 M) (Sum.elim (A_X1_numberInForce_5 l E Q v1 M) (X_X1_numberInForce_5 l E Q v1 M))) : V l E xX1_numberInForce (0, 0) 5 [(0, bR 4), (1, bI v1), (2, bI v2)] [] M (b_pIp M Q) := by
  unfold F_X1_numberInForce_s5 at h
  refine v_iload_n (f := 2) 2 rfl dX1_numberInForce_5 ?_
  refine v_if_le (tgt := 30) dX1_numberInForce_6 (by decide) (fun c1 => ?_) (fun c1 => ?_)
  · replace h := b_wp_t c1 h
    refine v_sub (ls2 := []) [] rfl ?_
    exact h
  · replace h := b_wp_f c1 h
    obtain ⟨⟨g2, g3⟩, h⟩ := b_wp_g h
    refine v_aload_n (f := 0) 0 rfl dX1_numberInForce_9 ?_
    refine v_getR (kf := 5) (kz := 5) rfl kd_4 rfl ⟨by decide, by decide⟩ rfl wf_1_13 dX1_numberInForce_10 ?_
    refine v_iload_n (f := 2) 2 rfl dX1_numberInForce_13 ?_
    refine v_aaload kd_107 g2 (by decide) dX1_numberInForce_14 ?_
    refine v_getI (kf := 0) (kz := 0) rfl (kd_act0 g3) rfl ⟨by decide, by decide⟩ rfl wf_1_59 dX1_numberInForce_15 ?_
    refine v_iload_n (f := 1) 1 rfl dX1_numberInForce_18 ?_
    refine v_icmp_gt (tgt := 24) dX1_numberInForce_19 (by decide) (fun c4 => ?_) (fun c4 => ?_)
    · replace h := b_wp_t c4 h
      obtain ⟨g5, h⟩ := b_wp_g h
      refine v_iincN (ls' := [(2, bI _), (0, bR _), (1, bI _)]) 2 rfl (by decide) g5 dX1_numberInForce_24 rfl ?_
      refine v_goto (tgt := 5) dX1_numberInForce_27 (by decide) ?_
      refine v_sub (ls2 := [(0, bR _), (1, bI _), (2, bI _)]) [1, 2, 0] rfl ?_
      exact h
    · replace h := b_wp_f c4 h
      refine v_iload_n (f := 2) 2 rfl dX1_numberInForce_22 ?_
      refine v_ireturn rfl dX1_numberInForce_23 ⟨by decide, by decide⟩ ?_
      exact ⟨_, rfl, rfl, h⟩
theorem l_X1_numberInForce_5 {l : Launch} {E : bE} {Q : Int → Prop} {v1 : Int} {M : bM} {s : Int} (h : b_wp (b_loop (fun t => F_X1_numberInForce_s5 v1 t M) s) (X_X1_numberInForce_5 l E Q v1 M)) : A_X1_numberInForce_5 l E Q v1 M s := b_loop_wp (fun t h => t_X1_numberInForce_s5 h) s h
noncomputable def F_X1_numberInForce_b30 (M : bM) : Option (Int) :=
  some 0
theorem t_X1_numberInForce_b30 {l : Launch} {E : bE} {Q : Int → Prop} {M : bM} (h : b_wp (F_X1_numberInForce_b30 M) (Q)) : V l E xX1_numberInForce (0, 0) 30 [] [] M (b_pIp M Q) := by
  unfold F_X1_numberInForce_b30 at h
  refine v_iconst ⟨by decide, by decide⟩ dX1_numberInForce_30 ?_
  refine v_ireturn rfl dX1_numberInForce_31 ⟨by decide, by decide⟩ ?_
  exact ⟨_, rfl, rfl, h⟩
noncomputable def F_X1_numberInForce (v1 : Int) (M : bM) : Option (Int) :=
  b_bind (b_loop (fun t => F_X1_numberInForce_s5 v1 t M) ((M 4 0))) (Sum.elim (fun t => F_X1_numberInForce_b30 M) some)
theorem t_X1_numberInForce {l : Launch} {E : bE} {Q : Int → Prop} {v1 : Int} {M : bM} (h : b_wp (F_X1_numberInForce v1 M) (Q)) : V l E xX1_numberInForce (0, 0) 0 [(0, bR 4), (1, bI v1)] [] M (b_pIp M Q) := by
  unfold F_X1_numberInForce at h
  refine v_aload_n (f := 0) 0 rfl dX1_numberInForce_0 ?_
  refine v_getI (kf := 0) (kz := 0) rfl kd_4 rfl ⟨by decide, by decide⟩ rfl wf_1_55 dX1_numberInForce_1 ?_
  refine v_istore_n (g := 2) (i := 2) (ls' := [(2, bI _), (0, bR _), (1, bI _)]) rfl (by decide) dX1_numberInForce_4 rfl ?_
  refine v_sub (ls2 := [(0, bR _), (1, bI _), (2, bI _)]) [1, 2, 0] rfl ?_
  refine l_X1_numberInForce_5 (b_wp_m (fun t h => ?_) (b_wp_b h))
  cases t with
  | inr o => exact h
  | inl t =>
    show V l E xX1_numberInForce (0, 0) 30 [] [] _ (b_pIp M Q)
    replace h := b_wp_inl h
    exact t_X1_numberInForce_b30 h
theorem cf_X1_numberInForce {l : Launch} {E : bE} {M : bM} {v1 : Int} {Q : Int → Prop} (h : b_wp (F_X1_numberInForce v1 M) Q) : b_C l E xX1_numberInForce yX1_numberInForce [bR 4, bI v1] M (b_pIp M Q) := b_met (by decide) ⟨rfl, rfl⟩ (Nat.le_of_ble_eq_true rfl) (fun _ _ => t_X1_numberInForce h)
abbrev xX1_inForce : bX := ("BurntHall$Acts", prog_3_method_3_code, 2, (Option.some (Jvm.ClassFile.FieldType.object "BurntHall$Act")), b_rm 2 0 0, 0, "inForce")
abbrev yX1_inForce : MethodName := ⟨"BurntHall$Acts", "inForce", "(I)LBurntHall$Act;"⟩
theorem dX1_inForce_0 : decode prog_3_method_3_code 0 = .ok (.aload_n 0, 1) := by decide +kernel
theorem dX1_inForce_1 : decode prog_3_method_3_code 1 = .ok (.getfield 13, 3) := by decide +kernel
theorem dX1_inForce_4 : decode prog_3_method_3_code 4 = .ok (.aload_n 0, 1) := by decide +kernel
theorem dX1_inForce_5 : decode prog_3_method_3_code 5 = .ok (.iload_n 1, 1) := by decide +kernel
theorem dX1_inForce_6 : decode prog_3_method_3_code 6 = .ok (.invokevirtual 62, 3) := by decide +kernel
theorem dX1_inForce_9 : decode prog_3_method_3_code 9 = .ok (.aaload, 1) := by decide +kernel
theorem dX1_inForce_10 : decode prog_3_method_3_code 10 = .ok (.areturn, 1) := by decide +kernel
noncomputable def F_X1_inForce (v1 : Int) (M : bM) : Option (Nat) :=
  b_bind (F_X1_numberInForce v1 M) (fun x1 => b_g (0 ≤ x1 ∧ x1 < 10) (some (12 + x1.toNat)))
theorem t_X1_inForce {l : Launch} {E : bE} {Q : Nat → Prop} {v1 : Int} {M : bM} (h : b_wp (F_X1_inForce v1 M) (Q)) : V l E xX1_inForce (0, 0) 0 [(0, bR 4), (1, bI v1)] [] M (b_pAp M Q) := by
  unfold F_X1_inForce at h
  refine v_aload_n (f := 0) 0 rfl dX1_inForce_0 ?_
  refine v_getR (kf := 5) (kz := 5) rfl kd_4 rfl ⟨by decide, by decide⟩ rfl wf_1_13 dX1_inForce_1 ?_
  refine v_aload_n (f := 0) 0 rfl dX1_inForce_4 ?_
  refine v_iload_n (f := 1) 1 rfl dX1_inForce_5 ?_
  refine v_cVIp (nA := 1) (As := [bI _]) (ix := 62) (cf_X1_numberInForce (b_wp_b h)) rfl kd_4 rfl rfl wc_X1_numberInForce wm_1_62 wi_X1_numberInForce ws_X1_numberInForce wn_1 ⟨by decide, by decide, by decide⟩ rfl ⟨by decide, by decide⟩ ⟨by decide, by decide⟩ (Nat.le_of_ble_eq_true rfl) dX1_inForce_6 (fun x1 h => ?_)
  obtain ⟨g2, h⟩ := b_wp_g h
  refine v_aaload kd_107 g2 (by decide) dX1_inForce_9 ?_
  refine v_areturn rfl (Or.inl ⟨_, rfl⟩) dX1_inForce_10 ⟨by decide, by decide⟩ ?_
  exact ⟨_, rfl, rfl, h⟩
theorem cf_X1_inForce {l : Launch} {E : bE} {M : bM} {v1 : Int} {Q : Nat → Prop} (h : b_wp (F_X1_inForce v1 M) Q) : b_C l E xX1_inForce yX1_inForce [bR 4, bI v1] M (b_pAp M Q) := b_met (by decide) ⟨rfl, rfl⟩ (Nat.le_of_ble_eq_true rfl) (fun _ _ => t_X1_inForce h)
abbrev xX0_told : bX := ("BurntHall$Act", prog_2_method_3_code, 2, (Option.some Jvm.ClassFile.FieldType.int), b_rm 1 0 0, 0, "told")
abbrev yX0_told : MethodName := ⟨"BurntHall$Act", "told", "(I)I"⟩
theorem dX0_told_0 : decode prog_2_method_3_code 0 = .ok (.iload_n 1, 1) := by decide +kernel
theorem dX0_told_1 : decode prog_2_method_3_code 1 = .ok (.ifCond .lt 18, 3) := by decide +kernel
theorem dX0_told_4 : decode prog_2_method_3_code 4 = .ok (.iload_n 1, 1) := by decide +kernel
theorem dX0_told_5 : decode prog_2_method_3_code 5 = .ok (.bipush 10, 2) := by decide +kernel
theorem dX0_told_7 : decode prog_2_method_3_code 7 = .ok (.if_icmp .ge 12, 3) := by decide +kernel
theorem dX0_told_10 : decode prog_2_method_3_code 10 = .ok (.aload_n 0, 1) := by decide +kernel
theorem dX0_told_11 : decode prog_2_method_3_code 11 = .ok (.getfield 9, 3) := by decide +kernel
theorem dX0_told_14 : decode prog_2_method_3_code 14 = .ok (.iload_n 1, 1) := by decide +kernel
theorem dX0_told_15 : decode prog_2_method_3_code 15 = .ok (.iaload, 1) := by decide +kernel
theorem dX0_told_16 : decode prog_2_method_3_code 16 = .ok (.goto 4, 3) := by decide +kernel
theorem dX0_told_19 : decode prog_2_method_3_code 19 = .ok (.iconst 0, 1) := by decide +kernel
theorem dX0_told_20 : decode prog_2_method_3_code 20 = .ok (.ireturn, 1) := by decide +kernel
noncomputable def F_X0_told_a (v0 : Nat) (v1 : Int) (M : bM) : Option (Int) :=
  if v1 < 0 then (some 0) else (if 10 ≤ v1 then (some 0) else (b_g ((12 ≤ v0 ∧ v0 < 22) ∧ (0 ≤ v1 ∧ v1 < 10)) (some (M (v0 + 10) v1))))
theorem t_X0_told_a {l : Launch} {E : bE} {Q : Int → Prop} {v0 : Nat} {v1 : Int} {M : bM} (h : b_wp (F_X0_told_a v0 v1 M) (Q)) : V l E xX0_told (0, 0) 0 [(0, bR v0), (1, bI v1)] [] M (b_pIp M Q) := by
  unfold F_X0_told_a at h
  refine v_iload_n (f := 1) 1 rfl dX0_told_0 ?_
  refine v_if_lt (tgt := 19) dX0_told_1 (by decide) (fun c1 => ?_) (fun c1 => ?_)
  · replace h := b_wp_t c1 h
    refine v_iconst ⟨by decide, by decide⟩ dX0_told_19 ?_
    refine v_ireturn rfl dX0_told_20 ⟨by decide, by decide⟩ ?_
    exact ⟨_, rfl, rfl, h⟩
  · replace h := b_wp_f c1 h
    refine v_iload_n (f := 1) 1 rfl dX0_told_4 ?_
    refine v_bipush ⟨by decide, by decide⟩ (by decide) dX0_told_5 ?_
    refine v_icmp_ge (tgt := 19) dX0_told_7 (by decide) (fun c2 => ?_) (fun c2 => ?_)
    · replace h := b_wp_t c2 h
      refine v_iconst ⟨by decide, by decide⟩ dX0_told_19 ?_
      refine v_ireturn rfl dX0_told_20 ⟨by decide, by decide⟩ ?_
      exact ⟨_, rfl, rfl, h⟩
    · replace h := b_wp_f c2 h
      obtain ⟨⟨g3, g4⟩, h⟩ := b_wp_g h
      refine v_aload_n (f := 0) 0 rfl dX0_told_10 ?_
      refine v_getO (kf := 2) (kz := 2) rfl (kd_act0 g3) rfl ⟨by decide, by decide⟩ rfl wf_0_9 dX0_told_11 ?_
      refine v_iload_n (f := 1) 1 rfl dX0_told_14 ?_
      refine v_iaload (kd_act10 g3) g4 (by decide) dX0_told_15 ?_
      refine v_goto (tgt := 20) dX0_told_16 (by decide) ?_
      refine v_ireturn rfl dX0_told_20 ⟨by decide, by decide⟩ ?_
      exact ⟨_, rfl, rfl, h⟩
theorem cf_X0_told_a {l : Launch} {E : bE} {M : bM} {v0 : Nat} {v1 : Int} {Q : Int → Prop} (h : b_wp (F_X0_told_a v0 v1 M) Q) : b_C l E xX0_told yX0_told [bR v0, bI v1] M (b_pIp M Q) := b_met (by decide) ⟨rfl, rfl⟩ (Nat.le_of_ble_eq_true rfl) (fun _ _ => t_X0_told_a h)
abbrev xX11_rule : bX := ("BurntHall", prog_1_method_27_code, 4, (Option.some Jvm.ClassFile.FieldType.int), b_rm 3 0 0, 0, "rule")
abbrev yX11_rule : MethodName := ⟨"BurntHall", "rule", "(II)I"⟩
theorem dX11_rule_0 : decode prog_1_method_27_code 0 = .ok (.iload_n 1, 1) := by decide +kernel
theorem dX11_rule_1 : decode prog_1_method_27_code 1 = .ok (.invokestatic 102, 3) := by decide +kernel
theorem dX11_rule_4 : decode prog_1_method_27_code 4 = .ok (.ifCond .eq 13, 3) := by decide +kernel
theorem dX11_rule_7 : decode prog_1_method_27_code 7 = .ok (.iload_n 2, 1) := by decide +kernel
theorem dX11_rule_8 : decode prog_1_method_27_code 8 = .ok (.ifCond .lt 9, 3) := by decide +kernel
theorem dX11_rule_11 : decode prog_1_method_27_code 11 = .ok (.iload_n 2, 1) := by decide +kernel
theorem dX11_rule_12 : decode prog_1_method_27_code 12 = .ok (.bipush 10, 2) := by decide +kernel
theorem dX11_rule_14 : decode prog_1_method_27_code 14 = .ok (.if_icmp .le 6, 3) := by decide +kernel
theorem dX11_rule_17 : decode prog_1_method_27_code 17 = .ok (.bipush (-9), 2) := by decide +kernel
theorem dX11_rule_19 : decode prog_1_method_27_code 19 = .ok (.ireturn, 1) := by decide +kernel
theorem dX11_rule_20 : decode prog_1_method_27_code 20 = .ok (.aload_n 0, 1) := by decide +kernel
theorem dX11_rule_21 : decode prog_1_method_27_code 21 = .ok (.getfield 35, 3) := by decide +kernel
theorem dX11_rule_24 : decode prog_1_method_27_code 24 = .ok (.iload_n 1, 1) := by decide +kernel
theorem dX11_rule_25 : decode prog_1_method_27_code 25 = .ok (.invokevirtual 228, 3) := by decide +kernel
theorem dX11_rule_28 : decode prog_1_method_27_code 28 = .ok (.astore_n 3, 1) := by decide +kernel
theorem dX11_rule_29 : decode prog_1_method_27_code 29 = .ok (.iload_n 2, 1) := by decide +kernel
theorem dX11_rule_30 : decode prog_1_method_27_code 30 = .ok (.bipush 10, 2) := by decide +kernel
theorem dX11_rule_32 : decode prog_1_method_27_code 32 = .ok (.if_icmp .ne 10, 3) := by decide +kernel
theorem dX11_rule_35 : decode prog_1_method_27_code 35 = .ok (.aload_n 3, 1) := by decide +kernel
theorem dX11_rule_36 : decode prog_1_method_27_code 36 = .ok (.getfield 232, 3) := by decide +kernel
theorem dX11_rule_39 : decode prog_1_method_27_code 39 = .ok (.goto 8, 3) := by decide +kernel
theorem dX11_rule_42 : decode prog_1_method_27_code 42 = .ok (.aload_n 3, 1) := by decide +kernel
theorem dX11_rule_43 : decode prog_1_method_27_code 43 = .ok (.iload_n 2, 1) := by decide +kernel
theorem dX11_rule_44 : decode prog_1_method_27_code 44 = .ok (.invokevirtual 237, 3) := by decide +kernel
theorem dX11_rule_47 : decode prog_1_method_27_code 47 = .ok (.ireturn, 1) := by decide +kernel
noncomputable def F_X11_rule (v1 : Int) (v2 : Int) (M : bM) : Option (Int) :=
  b_bind (F_X11_isDay v1 M) (fun x1 => if x1 = 0 then (some (-9)) else (if v2 < 0 then (some (-9)) else (if v2 ≤ 10 then (b_bind (F_X1_inForce v1 M) (fun x5 => if v2 = 10 then (b_g (12 ≤ x5 ∧ x5 < 22) (some (M x5 1))) else (b_g (12 ≤ x5 ∧ x5 < 22) (b_bind (F_X0_told_a x5 v2 M) (fun x8 => some x8))))) else (some (-9)))))
theorem t_X11_rule {l : Launch} {E : bE} {Q : Int → Prop} {v1 : Int} {v2 : Int} {M : bM} (h : b_wp (F_X11_rule v1 v2 M) (Q)) : V l E xX11_rule (0, 0) 0 [(0, bR 0), (1, bI v1), (2, bI v2)] [] M (b_pIp M Q) := by
  unfold F_X11_rule at h
  refine v_iload_n (f := 1) 1 rfl dX11_rule_0 ?_
  refine v_cSIp (nA := 1) (As := [bI _]) (ix := 102) (cf_X11_isDay (b_wp_b h)) rfl wc_X11_isDay wm_11_102 wi_X11_isDay wn_11 ⟨by decide, by decide, by decide⟩ rfl ⟨by decide, by decide⟩ ⟨by decide, by decide⟩ (Nat.le_of_ble_eq_true rfl) dX11_rule_1 (fun x1 h => ?_)
  refine v_if_eq (tgt := 17) dX11_rule_4 (by decide) (fun c2 => ?_) (fun c2 => ?_)
  · replace h := b_wp_t c2 h
    refine v_bipush ⟨by decide, by decide⟩ (by decide) dX11_rule_17 ?_
    refine v_ireturn rfl dX11_rule_19 ⟨by decide, by decide⟩ ?_
    exact ⟨_, rfl, rfl, h⟩
  · replace h := b_wp_f c2 h
    refine v_iload_n (f := 2) 2 rfl dX11_rule_7 ?_
    refine v_if_lt (tgt := 17) dX11_rule_8 (by decide) (fun c3 => ?_) (fun c3 => ?_)
    · replace h := b_wp_t c3 h
      refine v_bipush ⟨by decide, by decide⟩ (by decide) dX11_rule_17 ?_
      refine v_ireturn rfl dX11_rule_19 ⟨by decide, by decide⟩ ?_
      exact ⟨_, rfl, rfl, h⟩
    · replace h := b_wp_f c3 h
      refine v_iload_n (f := 2) 2 rfl dX11_rule_11 ?_
      refine v_bipush ⟨by decide, by decide⟩ (by decide) dX11_rule_12 ?_
      refine v_icmp_le (tgt := 20) dX11_rule_14 (by decide) (fun c4 => ?_) (fun c4 => ?_)
      · replace h := b_wp_t c4 h
        refine v_aload_n (f := 0) 0 rfl dX11_rule_20 ?_
        refine v_getR (kf := 3) (kz := 3) rfl kd_0 rfl ⟨by decide, by decide⟩ rfl wf_11_35 dX11_rule_21 ?_
        refine v_iload_n (f := 1) 1 rfl dX11_rule_24 ?_
        refine v_cVAp (nA := 1) (As := [bI _]) (ix := 228) (cf_X1_inForce (b_wp_b h)) rfl kd_4 rfl rfl wc_X1_inForce wm_11_228 wi_X1_inForce ws_X1_inForce wn_1 ⟨by decide, by decide, by decide⟩ rfl ⟨by decide, by decide⟩ ⟨by decide, by decide⟩ (Nat.le_of_ble_eq_true rfl) dX11_rule_25 (fun x5 h => ?_)
        refine v_astore_n (g := 3) (i := 3) (ls' := [(3, bR _), (0, bR _), (1, bI _), (2, bI _)]) rfl (by decide) dX11_rule_28 rfl ?_
        refine v_iload_n (f := 2) 3 rfl dX11_rule_29 ?_
        refine v_bipush ⟨by decide, by decide⟩ (by decide) dX11_rule_30 ?_
        refine v_icmp_ne (tgt := 42) dX11_rule_32 (by decide) (fun c6 => ?_) (fun c6 => ?_)
        · replace h := b_wp_f c6 h
          obtain ⟨g7, h⟩ := b_wp_g h
          refine v_aload_n (f := 3) 0 rfl dX11_rule_42 ?_
          refine v_iload_n (f := 2) 3 rfl dX11_rule_43 ?_
          refine v_cVIp (nA := 1) (As := [bI _]) (ix := 237) (cf_X0_told_a (b_wp_b h)) rfl (kd_act0 g7) rfl rfl wc_X0_told wm_11_237 wi_X0_told ws_X0_told wn_0 ⟨by decide, by decide, by decide⟩ rfl ⟨by decide, by decide⟩ ⟨by decide, by decide⟩ (Nat.le_of_ble_eq_true rfl) dX11_rule_44 (fun x8 h => ?_)
          refine v_ireturn rfl dX11_rule_47 ⟨by decide, by decide⟩ ?_
          exact ⟨_, rfl, rfl, h⟩
        · replace h := b_wp_t c6 h
          obtain ⟨g9, h⟩ := b_wp_g h
          refine v_aload_n (f := 3) 0 rfl dX11_rule_35 ?_
          refine v_getI (kf := 1) (kz := 1) rfl (kd_act0 g9) rfl ⟨by decide, by decide⟩ rfl wf_11_232 dX11_rule_36 ?_
          refine v_goto (tgt := 47) dX11_rule_39 (by decide) ?_
          refine v_ireturn rfl dX11_rule_47 ⟨by decide, by decide⟩ ?_
          exact ⟨_, rfl, rfl, h⟩
      · replace h := b_wp_f c4 h
        refine v_bipush ⟨by decide, by decide⟩ (by decide) dX11_rule_17 ?_
        refine v_ireturn rfl dX11_rule_19 ⟨by decide, by decide⟩ ?_
        exact ⟨_, rfl, rfl, h⟩
theorem cf_X11_rule {l : Launch} {E : bE} {M : bM} {v1 : Int} {v2 : Int} {Q : Int → Prop} (h : b_wp (F_X11_rule v1 v2 M) Q) : b_C l E xX11_rule yX11_rule [bR 0, bI v1, bI v2] M (b_pIp M Q) := b_met (by decide) ⟨rfl, rfl⟩ (Nat.le_of_ble_eq_true rfl) (fun _ _ => t_X11_rule h)
abbrev xX4_addBurnt : bX := ("BurntHall$Evidence", prog_6_method_2_code, 1, (Option.some Jvm.ClassFile.FieldType.int), b_rm 1 0 0, 0, "addBurnt")
abbrev yX4_addBurnt : MethodName := ⟨"BurntHall$Evidence", "addBurnt", "()I"⟩
theorem dX4_addBurnt_0 : decode prog_6_method_2_code 0 = .ok (.aload_n 0, 1) := by decide +kernel
theorem dX4_addBurnt_1 : decode prog_6_method_2_code 1 = .ok (.getfield 43, 3) := by decide +kernel
theorem dX4_addBurnt_4 : decode prog_6_method_2_code 4 = .ok (.bipush 30, 2) := by decide +kernel
theorem dX4_addBurnt_6 : decode prog_6_method_2_code 6 = .ok (.if_icmp .lt 6, 3) := by decide +kernel
theorem dX4_addBurnt_9 : decode prog_6_method_2_code 9 = .ok (.bipush (-3), 2) := by decide +kernel
theorem dX4_addBurnt_11 : decode prog_6_method_2_code 11 = .ok (.ireturn, 1) := by decide +kernel
theorem dX4_addBurnt_12 : decode prog_6_method_2_code 12 = .ok (.aload_n 0, 1) := by decide +kernel
theorem dX4_addBurnt_13 : decode prog_6_method_2_code 13 = .ok (.dup, 1) := by decide +kernel
theorem dX4_addBurnt_14 : decode prog_6_method_2_code 14 = .ok (.getfield 43, 3) := by decide +kernel
theorem dX4_addBurnt_17 : decode prog_6_method_2_code 17 = .ok (.iconst 1, 1) := by decide +kernel
theorem dX4_addBurnt_18 : decode prog_6_method_2_code 18 = .ok (.iadd, 1) := by decide +kernel
theorem dX4_addBurnt_19 : decode prog_6_method_2_code 19 = .ok (.putfield 43, 3) := by decide +kernel
theorem dX4_addBurnt_22 : decode prog_6_method_2_code 22 = .ok (.aload_n 0, 1) := by decide +kernel
theorem dX4_addBurnt_23 : decode prog_6_method_2_code 23 = .ok (.getfield 43, 3) := by decide +kernel
theorem dX4_addBurnt_26 : decode prog_6_method_2_code 26 = .ok (.iconst 1, 1) := by decide +kernel
theorem dX4_addBurnt_27 : decode prog_6_method_2_code 27 = .ok (.isub, 1) := by decide +kernel
theorem dX4_addBurnt_28 : decode prog_6_method_2_code 28 = .ok (.ireturn, 1) := by decide +kernel
noncomputable def F_X4_addBurnt (M : bM) : Option (Int × bM) :=
  if (M 6 0) < 30 then (b_g (b_i32 ((M 6 0) + 1)) (b_let (b_up M 6 0 ((M 6 0) + 1)) (fun M3 => b_g (b_i32 ((M3 6 0) - 1)) (some (((M3 6 0) - 1), M3))))) else (some ((-3), M))
theorem t_X4_addBurnt {l : Launch} {E : bE} {Q : (Int × bM) → Prop} {M : bM} (h : b_wp (F_X4_addBurnt M) (Q)) : V l E xX4_addBurnt (0, 0) 0 [(0, bR 6)] [] M (b_pI Q) := by
  unfold F_X4_addBurnt at h
  refine v_aload_n (f := 0) 0 rfl dX4_addBurnt_0 ?_
  refine v_getI (kf := 0) (kz := 0) rfl kd_6 rfl ⟨by decide, by decide⟩ rfl wf_4_43 dX4_addBurnt_1 ?_
  refine v_bipush ⟨by decide, by decide⟩ (by decide) dX4_addBurnt_4 ?_
  refine v_icmp_lt (tgt := 12) dX4_addBurnt_6 (by decide) (fun c1 => ?_) (fun c1 => ?_)
  · replace h := b_wp_t c1 h
    obtain ⟨g2, h⟩ := b_wp_g h
    refine v_aload_n (f := 0) 0 rfl dX4_addBurnt_12 ?_
    refine v_dup rfl dX4_addBurnt_13 ?_
    refine v_getI (kf := 0) (kz := 0) rfl kd_6 rfl ⟨by decide, by decide⟩ rfl wf_4_43 dX4_addBurnt_14 ?_
    refine v_iconst ⟨by decide, by decide⟩ dX4_addBurnt_17 ?_
    refine v_iaddN g2 dX4_addBurnt_18 ?_
    refine v_putI (kf := 0) (kz := 0) rfl kd_6 rfl ⟨by decide, by decide⟩ rfl wf_4_43 rfl rfl dX4_addBurnt_19 ?_
    replace h := b_wp_l h
    obtain ⟨g4, h⟩ := b_wp_g h
    refine v_aload_n (f := 0) 0 rfl dX4_addBurnt_22 ?_
    refine v_getI (kf := 0) (kz := 0) rfl kd_6 rfl ⟨by decide, by decide⟩ rfl wf_4_43 dX4_addBurnt_23 ?_
    refine v_iconst ⟨by decide, by decide⟩ dX4_addBurnt_26 ?_
    refine v_isubN g4 dX4_addBurnt_27 ?_
    refine v_ireturn rfl dX4_addBurnt_28 ⟨by decide, by decide⟩ ?_
    exact ⟨_, rfl, h⟩
  · replace h := b_wp_f c1 h
    refine v_bipush ⟨by decide, by decide⟩ (by decide) dX4_addBurnt_9 ?_
    refine v_ireturn rfl dX4_addBurnt_11 ⟨by decide, by decide⟩ ?_
    exact ⟨_, rfl, h⟩
theorem cf_X4_addBurnt {l : Launch} {E : bE} {M : bM} {Q : (Int × bM) → Prop} (h : b_wp (F_X4_addBurnt M) Q) : b_C l E xX4_addBurnt yX4_addBurnt [bR 6] M (b_pI Q) := b_met (by decide) ⟨rfl, rfl⟩ (Nat.le_of_ble_eq_true rfl) (fun _ _ => t_X4_addBurnt h)
abbrev xX11_burnt : bX := ("BurntHall", prog_1_method_28_code, 1, (Option.some Jvm.ClassFile.FieldType.int), b_rm 2 0 0, 0, "burnt")
abbrev yX11_burnt : MethodName := ⟨"BurntHall", "burnt", "()I"⟩
theorem dX11_burnt_0 : decode prog_1_method_28_code 0 = .ok (.aload_n 0, 1) := by decide +kernel
theorem dX11_burnt_1 : decode prog_1_method_28_code 1 = .ok (.getfield 51, 3) := by decide +kernel
theorem dX11_burnt_4 : decode prog_1_method_28_code 4 = .ok (.invokevirtual 113, 3) := by decide +kernel
theorem dX11_burnt_7 : decode prog_1_method_28_code 7 = .ok (.aload_n 0, 1) := by decide +kernel
theorem dX11_burnt_8 : decode prog_1_method_28_code 8 = .ok (.getfield 51, 3) := by decide +kernel
theorem dX11_burnt_11 : decode prog_1_method_28_code 11 = .ok (.invokevirtual 240, 3) := by decide +kernel
theorem dX11_burnt_14 : decode prog_1_method_28_code 14 = .ok (.ireturn, 1) := by decide +kernel
noncomputable def F_X11_burnt (M : bM) : Option (Int × bM) :=
  b_bind (F_X4_forget M) (fun M1 => b_bind (F_X4_addBurnt M1) (fun t => b_two t (fun x2 M3 => some (x2, M3))))
theorem t_X11_burnt {l : Launch} {E : bE} {Q : (Int × bM) → Prop} {M : bM} (h : b_wp (F_X11_burnt M) (Q)) : V l E xX11_burnt (0, 0) 0 [(0, bR 0)] [] M (b_pI Q) := by
  unfold F_X11_burnt at h
  refine v_aload_n (f := 0) 0 rfl dX11_burnt_0 ?_
  refine v_getR (kf := 5) (kz := 5) rfl kd_0 rfl ⟨by decide, by decide⟩ rfl wf_11_51 dX11_burnt_1 ?_
  refine v_cVV (nA := 0) (As := []) (ix := 113) (cf_X4_forget (b_wp_b h)) rfl kd_6 rfl rfl wc_X4_forget wm_11_113 wi_X4_forget ws_X4_forget wn_4 ⟨by decide, by decide, by decide⟩ rfl ⟨by decide, by decide⟩ ⟨by decide, by decide⟩ (Nat.le_of_ble_eq_true rfl) dX11_burnt_4 (fun M1 h => ?_)
  refine v_aload_n (f := 0) 0 rfl dX11_burnt_7 ?_
  refine v_getR (kf := 5) (kz := 5) rfl kd_0 rfl ⟨by decide, by decide⟩ rfl wf_11_51 dX11_burnt_8 ?_
  refine v_cVI (nA := 0) (As := []) (ix := 240) (cf_X4_addBurnt (b_wp_b h)) rfl kd_6 rfl rfl wc_X4_addBurnt wm_11_240 wi_X4_addBurnt ws_X4_addBurnt wn_4 ⟨by decide, by decide, by decide⟩ rfl ⟨by decide, by decide⟩ ⟨by decide, by decide⟩ (Nat.le_of_ble_eq_true rfl) dX11_burnt_11 (fun x2 M3 h => ?_)
  replace h := b_wp_two h
  refine v_ireturn rfl dX11_burnt_14 ⟨by decide, by decide⟩ ?_
  exact ⟨_, rfl, h⟩
theorem cf_X11_burnt {l : Launch} {E : bE} {M : bM} {Q : (Int × bM) → Prop} (h : b_wp (F_X11_burnt M) Q) : b_C l E xX11_burnt yX11_burnt [bR 0] M (b_pI Q) := b_met (by decide) ⟨rfl, rfl⟩ (Nat.le_of_ble_eq_true rfl) (fun _ _ => t_X11_burnt h)
abbrev xX7_add : bX := ("BurntHall$Papers", prog_9_method_5_code, 4, (Option.some Jvm.ClassFile.FieldType.int), b_rm 1 0 0, 0, "add")
abbrev yX7_add : MethodName := ⟨"BurntHall$Papers", "add", "(III)I"⟩
theorem dX7_add_0 : decode prog_9_method_5_code 0 = .ok (.aload_n 0, 1) := by decide +kernel
theorem dX7_add_1 : decode prog_9_method_5_code 1 = .ok (.getfield 67, 3) := by decide +kernel
theorem dX7_add_4 : decode prog_9_method_5_code 4 = .ok (.bipush 120, 2) := by decide +kernel
theorem dX7_add_6 : decode prog_9_method_5_code 6 = .ok (.if_icmp .lt 6, 3) := by decide +kernel
theorem dX7_add_9 : decode prog_9_method_5_code 9 = .ok (.bipush (-3), 2) := by decide +kernel
theorem dX7_add_11 : decode prog_9_method_5_code 11 = .ok (.ireturn, 1) := by decide +kernel
theorem dX7_add_12 : decode prog_9_method_5_code 12 = .ok (.aload_n 0, 1) := by decide +kernel
theorem dX7_add_13 : decode prog_9_method_5_code 13 = .ok (.getfield 17, 3) := by decide +kernel
theorem dX7_add_16 : decode prog_9_method_5_code 16 = .ok (.aload_n 0, 1) := by decide +kernel
theorem dX7_add_17 : decode prog_9_method_5_code 17 = .ok (.getfield 67, 3) := by decide +kernel
theorem dX7_add_20 : decode prog_9_method_5_code 20 = .ok (.iload_n 1, 1) := by decide +kernel
theorem dX7_add_21 : decode prog_9_method_5_code 21 = .ok (.iastore, 1) := by decide +kernel
theorem dX7_add_22 : decode prog_9_method_5_code 22 = .ok (.aload_n 0, 1) := by decide +kernel
theorem dX7_add_23 : decode prog_9_method_5_code 23 = .ok (.getfield 21, 3) := by decide +kernel
theorem dX7_add_26 : decode prog_9_method_5_code 26 = .ok (.aload_n 0, 1) := by decide +kernel
theorem dX7_add_27 : decode prog_9_method_5_code 27 = .ok (.getfield 67, 3) := by decide +kernel
theorem dX7_add_30 : decode prog_9_method_5_code 30 = .ok (.iload_n 2, 1) := by decide +kernel
theorem dX7_add_31 : decode prog_9_method_5_code 31 = .ok (.iastore, 1) := by decide +kernel
theorem dX7_add_32 : decode prog_9_method_5_code 32 = .ok (.aload_n 0, 1) := by decide +kernel
theorem dX7_add_33 : decode prog_9_method_5_code 33 = .ok (.getfield 24, 3) := by decide +kernel
theorem dX7_add_36 : decode prog_9_method_5_code 36 = .ok (.aload_n 0, 1) := by decide +kernel
theorem dX7_add_37 : decode prog_9_method_5_code 37 = .ok (.getfield 67, 3) := by decide +kernel
theorem dX7_add_40 : decode prog_9_method_5_code 40 = .ok (.iload_n 3, 1) := by decide +kernel
theorem dX7_add_41 : decode prog_9_method_5_code 41 = .ok (.iastore, 1) := by decide +kernel
theorem dX7_add_42 : decode prog_9_method_5_code 42 = .ok (.aload_n 0, 1) := by decide +kernel
theorem dX7_add_43 : decode prog_9_method_5_code 43 = .ok (.getfield 36, 3) := by decide +kernel
theorem dX7_add_46 : decode prog_9_method_5_code 46 = .ok (.aload_n 0, 1) := by decide +kernel
theorem dX7_add_47 : decode prog_9_method_5_code 47 = .ok (.getfield 67, 3) := by decide +kernel
theorem dX7_add_50 : decode prog_9_method_5_code 50 = .ok (.iconst (-1), 1) := by decide +kernel
theorem dX7_add_51 : decode prog_9_method_5_code 51 = .ok (.iastore, 1) := by decide +kernel
theorem dX7_add_52 : decode prog_9_method_5_code 52 = .ok (.aload_n 0, 1) := by decide +kernel
theorem dX7_add_53 : decode prog_9_method_5_code 53 = .ok (.getfield 45, 3) := by decide +kernel
theorem dX7_add_56 : decode prog_9_method_5_code 56 = .ok (.aload_n 0, 1) := by decide +kernel
theorem dX7_add_57 : decode prog_9_method_5_code 57 = .ok (.getfield 67, 3) := by decide +kernel
theorem dX7_add_60 : decode prog_9_method_5_code 60 = .ok (.aload_n 0, 1) := by decide +kernel
theorem dX7_add_61 : decode prog_9_method_5_code 61 = .ok (.getfield 75, 3) := by decide +kernel
theorem dX7_add_64 : decode prog_9_method_5_code 64 = .ok (.iastore, 1) := by decide +kernel
theorem dX7_add_65 : decode prog_9_method_5_code 65 = .ok (.aload_n 0, 1) := by decide +kernel
theorem dX7_add_66 : decode prog_9_method_5_code 66 = .ok (.getfield 55, 3) := by decide +kernel
theorem dX7_add_69 : decode prog_9_method_5_code 69 = .ok (.iconst 0, 1) := by decide +kernel
theorem dX7_add_70 : decode prog_9_method_5_code 70 = .ok (.aload_n 0, 1) := by decide +kernel
theorem dX7_add_71 : decode prog_9_method_5_code 71 = .ok (.getfield 48, 3) := by decide +kernel
theorem dX7_add_74 : decode prog_9_method_5_code 74 = .ok (.aload_n 0, 1) := by decide +kernel
theorem dX7_add_75 : decode prog_9_method_5_code 75 = .ok (.getfield 67, 3) := by decide +kernel
theorem dX7_add_78 : decode prog_9_method_5_code 78 = .ok (.bipush 12, 2) := by decide +kernel
theorem dX7_add_80 : decode prog_9_method_5_code 80 = .ok (.imul, 1) := by decide +kernel
theorem dX7_add_81 : decode prog_9_method_5_code 81 = .ok (.bipush 12, 2) := by decide +kernel
theorem dX7_add_83 : decode prog_9_method_5_code 83 = .ok (.invokestatic 99, 3) := by decide +kernel
theorem dX7_add_86 : decode prog_9_method_5_code 86 = .ok (.aload_n 0, 1) := by decide +kernel
theorem dX7_add_87 : decode prog_9_method_5_code 87 = .ok (.getfield 58, 3) := by decide +kernel
theorem dX7_add_90 : decode prog_9_method_5_code 90 = .ok (.iconst 0, 1) := by decide +kernel
theorem dX7_add_91 : decode prog_9_method_5_code 91 = .ok (.aload_n 0, 1) := by decide +kernel
theorem dX7_add_92 : decode prog_9_method_5_code 92 = .ok (.getfield 52, 3) := by decide +kernel
theorem dX7_add_95 : decode prog_9_method_5_code 95 = .ok (.aload_n 0, 1) := by decide +kernel
theorem dX7_add_96 : decode prog_9_method_5_code 96 = .ok (.getfield 67, 3) := by decide +kernel
theorem dX7_add_99 : decode prog_9_method_5_code 99 = .ok (.bipush 12, 2) := by decide +kernel
theorem dX7_add_101 : decode prog_9_method_5_code 101 = .ok (.imul, 1) := by decide +kernel
theorem dX7_add_102 : decode prog_9_method_5_code 102 = .ok (.bipush 12, 2) := by decide +kernel
theorem dX7_add_104 : decode prog_9_method_5_code 104 = .ok (.invokestatic 99, 3) := by decide +kernel
theorem dX7_add_107 : decode prog_9_method_5_code 107 = .ok (.aload_n 0, 1) := by decide +kernel
theorem dX7_add_108 : decode prog_9_method_5_code 108 = .ok (.dup, 1) := by decide +kernel
theorem dX7_add_109 : decode prog_9_method_5_code 109 = .ok (.getfield 67, 3) := by decide +kernel
theorem dX7_add_112 : decode prog_9_method_5_code 112 = .ok (.iconst 1, 1) := by decide +kernel
theorem dX7_add_113 : decode prog_9_method_5_code 113 = .ok (.iadd, 1) := by decide +kernel
theorem dX7_add_114 : decode prog_9_method_5_code 114 = .ok (.putfield 67, 3) := by decide +kernel
theorem dX7_add_117 : decode prog_9_method_5_code 117 = .ok (.aload_n 0, 1) := by decide +kernel
theorem dX7_add_118 : decode prog_9_method_5_code 118 = .ok (.getfield 67, 3) := by decide +kernel
theorem dX7_add_121 : decode prog_9_method_5_code 121 = .ok (.iconst 1, 1) := by decide +kernel
theorem dX7_add_122 : decode prog_9_method_5_code 122 = .ok (.isub, 1) := by decide +kernel
theorem dX7_add_123 : decode prog_9_method_5_code 123 = .ok (.ireturn, 1) := by decide +kernel
noncomputable def F_X7_add (v1 : Int) (v2 : Int) (v3 : Int) (M : bM) : Option (Int × bM) :=
  if (M 5 0) < 120 then (b_g (0 ≤ (M 5 0) ∧ (M 5 0) < 120) (b_let (b_up M 110 (M 5 0) v1) (fun M3 => b_g (0 ≤ (M3 5 0) ∧ (M3 5 0) < 120) (b_let (b_up M3 111 (M3 5 0) v2) (fun M5 => b_g (0 ≤ (M5 5 0) ∧ (M5 5 0) < 120) (b_let (b_up M5 112 (M5 5 0) v3) (fun M7 => b_g (0 ≤ (M7 5 0) ∧ (M7 5 0) < 120) (b_let (b_up M7 116 (M7 5 0) (-1)) (fun M9 => b_g (0 ≤ (M9 5 0) ∧ (M9 5 0) < 120) (b_let (b_up M9 119 (M9 5 0) (M9 5 16)) (fun M11 => b_g ((b_i32 ((M11 5 0) * 12)) ∧ (0 ≤ (0 : Int) ∧ 0 ≤ ((M11 5 0) * 12) ∧ 0 ≤ (12 : Int) ∧ (0 : Int) + 12 ≤ 12 ∧ ((M11 5 0) * 12) + 12 ≤ 1440)) (b_let (b_set M11 120 (s_cpy (M11 122) (M11 120) 0 ((M11 5 0) * 12) 12)) (fun M14 => b_g ((b_i32 ((M14 5 0) * 12)) ∧ (0 ≤ (0 : Int) ∧ 0 ≤ ((M14 5 0) * 12) ∧ 0 ≤ (12 : Int) ∧ (0 : Int) + 12 ≤ 12 ∧ ((M14 5 0) * 12) + 12 ≤ 1440)) (b_let (b_set M14 121 (s_cpy (M14 123) (M14 121) 0 ((M14 5 0) * 12) 12)) (fun M17 => b_g (b_i32 ((M17 5 0) + 1)) (b_let (b_up M17 5 0 ((M17 5 0) + 1)) (fun M19 => b_g (b_i32 ((M19 5 0) - 1)) (some (((M19 5 0) - 1), M19))))))))))))))))))) else (some ((-3), M))
theorem t_X7_add {l : Launch} {E : bE} {Q : (Int × bM) → Prop} {v1 : Int} {v2 : Int} {v3 : Int} {M : bM} (h : b_wp (F_X7_add v1 v2 v3 M) (Q)) : V l E xX7_add (0, 0) 0 [(0, bR 5), (1, bI v1), (2, bI v2), (3, bI v3)] [] M (b_pI Q) := by
  unfold F_X7_add at h
  refine v_aload_n (f := 0) 0 rfl dX7_add_0 ?_
  refine v_getI (kf := 0) (kz := 0) rfl kd_5 rfl ⟨by decide, by decide⟩ rfl wf_7_67 dX7_add_1 ?_
  refine v_bipush ⟨by decide, by decide⟩ (by decide) dX7_add_4 ?_
  refine v_icmp_lt (tgt := 12) dX7_add_6 (by decide) (fun c1 => ?_) (fun c1 => ?_)
  · replace h := b_wp_t c1 h
    obtain ⟨g2, h⟩ := b_wp_g h
    refine v_aload_n (f := 0) 0 rfl dX7_add_12 ?_
    refine v_getR (kf := 2) (kz := 2) rfl kd_5 rfl ⟨by decide, by decide⟩ rfl wf_7_17 dX7_add_13 ?_
    refine v_aload_n (f := 0) 0 rfl dX7_add_16 ?_
    refine v_getI (kf := 0) (kz := 0) rfl kd_5 rfl ⟨by decide, by decide⟩ rfl wf_7_67 dX7_add_17 ?_
    refine v_iload_n (f := 1) 1 rfl dX7_add_20 ?_
    refine v_iastore kd_110 g2 (by decide) dX7_add_21 ?_
    replace h := b_wp_l h
    obtain ⟨g4, h⟩ := b_wp_g h
    refine v_aload_n (f := 0) 0 rfl dX7_add_22 ?_
    refine v_getR (kf := 3) (kz := 3) rfl kd_5 rfl ⟨by decide, by decide⟩ rfl wf_7_21 dX7_add_23 ?_
    refine v_aload_n (f := 0) 0 rfl dX7_add_26 ?_
    refine v_getI (kf := 0) (kz := 0) rfl kd_5 rfl ⟨by decide, by decide⟩ rfl wf_7_67 dX7_add_27 ?_
    refine v_iload_n (f := 2) 2 rfl dX7_add_30 ?_
    refine v_iastore kd_111 g4 (by decide) dX7_add_31 ?_
    replace h := b_wp_l h
    obtain ⟨g6, h⟩ := b_wp_g h
    refine v_aload_n (f := 0) 0 rfl dX7_add_32 ?_
    refine v_getR (kf := 4) (kz := 4) rfl kd_5 rfl ⟨by decide, by decide⟩ rfl wf_7_24 dX7_add_33 ?_
    refine v_aload_n (f := 0) 0 rfl dX7_add_36 ?_
    refine v_getI (kf := 0) (kz := 0) rfl kd_5 rfl ⟨by decide, by decide⟩ rfl wf_7_67 dX7_add_37 ?_
    refine v_iload_n (f := 3) 3 rfl dX7_add_40 ?_
    refine v_iastore kd_112 g6 (by decide) dX7_add_41 ?_
    replace h := b_wp_l h
    obtain ⟨g8, h⟩ := b_wp_g h
    refine v_aload_n (f := 0) 0 rfl dX7_add_42 ?_
    refine v_getR (kf := 8) (kz := 8) rfl kd_5 rfl ⟨by decide, by decide⟩ rfl wf_7_36 dX7_add_43 ?_
    refine v_aload_n (f := 0) 0 rfl dX7_add_46 ?_
    refine v_getI (kf := 0) (kz := 0) rfl kd_5 rfl ⟨by decide, by decide⟩ rfl wf_7_67 dX7_add_47 ?_
    refine v_iconst ⟨by decide, by decide⟩ dX7_add_50 ?_
    refine v_iastore kd_116 g8 (by decide) dX7_add_51 ?_
    replace h := b_wp_l h
    obtain ⟨g10, h⟩ := b_wp_g h
    refine v_aload_n (f := 0) 0 rfl dX7_add_52 ?_
    refine v_getR (kf := 11) (kz := 11) rfl kd_5 rfl ⟨by decide, by decide⟩ rfl wf_7_45 dX7_add_53 ?_
    refine v_aload_n (f := 0) 0 rfl dX7_add_56 ?_
    refine v_getI (kf := 0) (kz := 0) rfl kd_5 rfl ⟨by decide, by decide⟩ rfl wf_7_67 dX7_add_57 ?_
    refine v_aload_n (f := 0) 0 rfl dX7_add_60 ?_
    refine v_getI (kf := 16) (kz := 16) rfl kd_5 rfl ⟨by decide, by decide⟩ rfl wf_7_75 dX7_add_61 ?_
    refine v_iastore kd_119 g10 (by decide) dX7_add_64 ?_
    replace h := b_wp_l h
    obtain ⟨⟨g12, g13⟩, h⟩ := b_wp_g h
    refine v_aload_n (f := 0) 0 rfl dX7_add_65 ?_
    refine v_getR (kf := 14) (kz := 14) rfl kd_5 rfl ⟨by decide, by decide⟩ rfl wf_7_55 dX7_add_66 ?_
    refine v_iconst ⟨by decide, by decide⟩ dX7_add_69 ?_
    refine v_aload_n (f := 0) 0 rfl dX7_add_70 ?_
    refine v_getR (kf := 12) (kz := 12) rfl kd_5 rfl ⟨by decide, by decide⟩ rfl wf_7_48 dX7_add_71 ?_
    refine v_aload_n (f := 0) 0 rfl dX7_add_74 ?_
    refine v_getI (kf := 0) (kz := 0) rfl kd_5 rfl ⟨by decide, by decide⟩ rfl wf_7_67 dX7_add_75 ?_
    refine v_bipush ⟨by decide, by decide⟩ (by decide) dX7_add_78 ?_
    refine v_imulN g12 dX7_add_80 ?_
    refine v_bipush ⟨by decide, by decide⟩ (by decide) dX7_add_81 ?_
    refine g_copyJ (b_in kd_122 (by simp)) (b_in kd_120 (by simp)) kd_122 kd_120 g13 wm_7_99 ⟨by decide, by decide⟩ (Nat.le_of_ble_eq_true rfl) dX7_add_83 ?_
    replace h := b_wp_l h
    obtain ⟨⟨g15, g16⟩, h⟩ := b_wp_g h
    refine v_aload_n (f := 0) 0 rfl dX7_add_86 ?_
    refine v_getR (kf := 15) (kz := 15) rfl kd_5 rfl ⟨by decide, by decide⟩ rfl wf_7_58 dX7_add_87 ?_
    refine v_iconst ⟨by decide, by decide⟩ dX7_add_90 ?_
    refine v_aload_n (f := 0) 0 rfl dX7_add_91 ?_
    refine v_getR (kf := 13) (kz := 13) rfl kd_5 rfl ⟨by decide, by decide⟩ rfl wf_7_52 dX7_add_92 ?_
    refine v_aload_n (f := 0) 0 rfl dX7_add_95 ?_
    refine v_getI (kf := 0) (kz := 0) rfl kd_5 rfl ⟨by decide, by decide⟩ rfl wf_7_67 dX7_add_96 ?_
    refine v_bipush ⟨by decide, by decide⟩ (by decide) dX7_add_99 ?_
    refine v_imulN g15 dX7_add_101 ?_
    refine v_bipush ⟨by decide, by decide⟩ (by decide) dX7_add_102 ?_
    refine g_copyI (b_in kd_123 (by simp)) (b_in kd_121 (by simp)) kd_123 kd_121 g16 wm_7_99 ⟨by decide, by decide⟩ (Nat.le_of_ble_eq_true rfl) dX7_add_104 ?_
    replace h := b_wp_l h
    obtain ⟨g18, h⟩ := b_wp_g h
    refine v_aload_n (f := 0) 0 rfl dX7_add_107 ?_
    refine v_dup rfl dX7_add_108 ?_
    refine v_getI (kf := 0) (kz := 0) rfl kd_5 rfl ⟨by decide, by decide⟩ rfl wf_7_67 dX7_add_109 ?_
    refine v_iconst ⟨by decide, by decide⟩ dX7_add_112 ?_
    refine v_iaddN g18 dX7_add_113 ?_
    refine v_putI (kf := 0) (kz := 0) rfl kd_5 rfl ⟨by decide, by decide⟩ rfl wf_7_67 rfl rfl dX7_add_114 ?_
    replace h := b_wp_l h
    obtain ⟨g20, h⟩ := b_wp_g h
    refine v_aload_n (f := 0) 0 rfl dX7_add_117 ?_
    refine v_getI (kf := 0) (kz := 0) rfl kd_5 rfl ⟨by decide, by decide⟩ rfl wf_7_67 dX7_add_118 ?_
    refine v_iconst ⟨by decide, by decide⟩ dX7_add_121 ?_
    refine v_isubN g20 dX7_add_122 ?_
    refine v_ireturn rfl dX7_add_123 ⟨by decide, by decide⟩ ?_
    exact ⟨_, rfl, h⟩
  · replace h := b_wp_f c1 h
    refine v_bipush ⟨by decide, by decide⟩ (by decide) dX7_add_9 ?_
    refine v_ireturn rfl dX7_add_11 ⟨by decide, by decide⟩ ?_
    exact ⟨_, rfl, h⟩
theorem cf_X7_add {l : Launch} {E : bE} {M : bM} {v1 : Int} {v2 : Int} {v3 : Int} {Q : (Int × bM) → Prop} (h : b_wp (F_X7_add v1 v2 v3 M) Q) : b_C l E xX7_add yX7_add [bR 5, bI v1, bI v2, bI v3] M (b_pI Q) := b_met (by decide) ⟨rfl, rfl⟩ (Nat.le_of_ble_eq_true rfl) (fun _ _ => t_X7_add h)
abbrev xX7_has : bX := ("BurntHall$Papers", prog_9_method_2_code, 2, (Option.some Jvm.ClassFile.FieldType.boolean), b_rm 1 0 0, 0, "has")
abbrev yX7_has : MethodName := ⟨"BurntHall$Papers", "has", "(I)Z"⟩
theorem dX7_has_0 : decode prog_9_method_2_code 0 = .ok (.iload_n 1, 1) := by decide +kernel
theorem dX7_has_1 : decode prog_9_method_2_code 1 = .ok (.ifCond .lt 15, 3) := by decide +kernel
theorem dX7_has_4 : decode prog_9_method_2_code 4 = .ok (.iload_n 1, 1) := by decide +kernel
theorem dX7_has_5 : decode prog_9_method_2_code 5 = .ok (.aload_n 0, 1) := by decide +kernel
theorem dX7_has_6 : decode prog_9_method_2_code 6 = .ok (.getfield 67, 3) := by decide +kernel
theorem dX7_has_9 : decode prog_9_method_2_code 9 = .ok (.if_icmp .ge 7, 3) := by decide +kernel
theorem dX7_has_12 : decode prog_9_method_2_code 12 = .ok (.iconst 1, 1) := by decide +kernel
theorem dX7_has_13 : decode prog_9_method_2_code 13 = .ok (.goto 4, 3) := by decide +kernel
theorem dX7_has_16 : decode prog_9_method_2_code 16 = .ok (.iconst 0, 1) := by decide +kernel
theorem dX7_has_17 : decode prog_9_method_2_code 17 = .ok (.ireturn, 1) := by decide +kernel
noncomputable def F_X7_has (v1 : Int) (M : bM) : Option (Int) :=
  if v1 < 0 then (some 0) else (if (M 5 0) ≤ v1 then (some 0) else (some 1))
theorem t_X7_has {l : Launch} {E : bE} {Q : Int → Prop} {v1 : Int} {M : bM} (h : b_wp (F_X7_has v1 M) (Q)) : V l E xX7_has (0, 0) 0 [(0, bR 5), (1, bI v1)] [] M (b_pIp M Q) := by
  unfold F_X7_has at h
  refine v_iload_n (f := 1) 1 rfl dX7_has_0 ?_
  refine v_if_lt (tgt := 16) dX7_has_1 (by decide) (fun c1 => ?_) (fun c1 => ?_)
  · replace h := b_wp_t c1 h
    refine v_iconst ⟨by decide, by decide⟩ dX7_has_16 ?_
    refine v_zreturn rfl (Or.inl rfl) dX7_has_17 ⟨by decide, by decide⟩ ?_
    exact ⟨_, rfl, rfl, h⟩
  · replace h := b_wp_f c1 h
    refine v_iload_n (f := 1) 1 rfl dX7_has_4 ?_
    refine v_aload_n (f := 0) 0 rfl dX7_has_5 ?_
    refine v_getI (kf := 0) (kz := 0) rfl kd_5 rfl ⟨by decide, by decide⟩ rfl wf_7_67 dX7_has_6 ?_
    refine v_icmp_ge (tgt := 16) dX7_has_9 (by decide) (fun c2 => ?_) (fun c2 => ?_)
    · replace h := b_wp_t c2 h
      refine v_iconst ⟨by decide, by decide⟩ dX7_has_16 ?_
      refine v_zreturn rfl (Or.inl rfl) dX7_has_17 ⟨by decide, by decide⟩ ?_
      exact ⟨_, rfl, rfl, h⟩
    · replace h := b_wp_f c2 h
      refine v_iconst ⟨by decide, by decide⟩ dX7_has_12 ?_
      refine v_goto (tgt := 17) dX7_has_13 (by decide) ?_
      refine v_zreturn rfl (Or.inr rfl) dX7_has_17 ⟨by decide, by decide⟩ ?_
      exact ⟨_, rfl, rfl, h⟩
theorem cf_X7_has {l : Launch} {E : bE} {M : bM} {v1 : Int} {Q : Int → Prop} (h : b_wp (F_X7_has v1 M) Q) : b_C l E xX7_has yX7_has [bR 5, bI v1] M (b_pIp M Q) := b_met (by decide) ⟨rfl, rfl⟩ (Nat.le_of_ble_eq_true rfl) (fun _ _ => t_X7_has h)
abbrev xX7_say : bX := ("BurntHall$Papers", prog_9_method_6_code, 7, (Option.none : Option Jvm.ClassFile.FieldType), b_rm 2 0 0, 0, "say")
abbrev yX7_say : MethodName := ⟨"BurntHall$Papers", "say", "(IIIIII)V"⟩
theorem dX7_say_0 : decode prog_9_method_6_code 0 = .ok (.aload_n 0, 1) := by decide +kernel
theorem dX7_say_1 : decode prog_9_method_6_code 1 = .ok (.iload_n 1, 1) := by decide +kernel
theorem dX7_say_2 : decode prog_9_method_6_code 2 = .ok (.invokevirtual 105, 3) := by decide +kernel
theorem dX7_say_5 : decode prog_9_method_6_code 5 = .ok (.ifCond .eq 51, 3) := by decide +kernel
theorem dX7_say_8 : decode prog_9_method_6_code 8 = .ok (.aload_n 0, 1) := by decide +kernel
theorem dX7_say_9 : decode prog_9_method_6_code 9 = .ok (.getfield 33, 3) := by decide +kernel
theorem dX7_say_12 : decode prog_9_method_6_code 12 = .ok (.iload_n 1, 1) := by decide +kernel
theorem dX7_say_13 : decode prog_9_method_6_code 13 = .ok (.iconst 3, 1) := by decide +kernel
theorem dX7_say_14 : decode prog_9_method_6_code 14 = .ok (.imul, 1) := by decide +kernel
theorem dX7_say_15 : decode prog_9_method_6_code 15 = .ok (.iload_n 2, 1) := by decide +kernel
theorem dX7_say_16 : decode prog_9_method_6_code 16 = .ok (.iastore, 1) := by decide +kernel
theorem dX7_say_17 : decode prog_9_method_6_code 17 = .ok (.aload_n 0, 1) := by decide +kernel
theorem dX7_say_18 : decode prog_9_method_6_code 18 = .ok (.getfield 33, 3) := by decide +kernel
theorem dX7_say_21 : decode prog_9_method_6_code 21 = .ok (.iload_n 1, 1) := by decide +kernel
theorem dX7_say_22 : decode prog_9_method_6_code 22 = .ok (.iconst 3, 1) := by decide +kernel
theorem dX7_say_23 : decode prog_9_method_6_code 23 = .ok (.imul, 1) := by decide +kernel
theorem dX7_say_24 : decode prog_9_method_6_code 24 = .ok (.iconst 1, 1) := by decide +kernel
theorem dX7_say_25 : decode prog_9_method_6_code 25 = .ok (.iadd, 1) := by decide +kernel
theorem dX7_say_26 : decode prog_9_method_6_code 26 = .ok (.iload_n 3, 1) := by decide +kernel
theorem dX7_say_27 : decode prog_9_method_6_code 27 = .ok (.iastore, 1) := by decide +kernel
theorem dX7_say_28 : decode prog_9_method_6_code 28 = .ok (.aload_n 0, 1) := by decide +kernel
theorem dX7_say_29 : decode prog_9_method_6_code 29 = .ok (.getfield 33, 3) := by decide +kernel
theorem dX7_say_32 : decode prog_9_method_6_code 32 = .ok (.iload_n 1, 1) := by decide +kernel
theorem dX7_say_33 : decode prog_9_method_6_code 33 = .ok (.iconst 3, 1) := by decide +kernel
theorem dX7_say_34 : decode prog_9_method_6_code 34 = .ok (.imul, 1) := by decide +kernel
theorem dX7_say_35 : decode prog_9_method_6_code 35 = .ok (.iconst 2, 1) := by decide +kernel
theorem dX7_say_36 : decode prog_9_method_6_code 36 = .ok (.iadd, 1) := by decide +kernel
theorem dX7_say_37 : decode prog_9_method_6_code 37 = .ok (.iload 4, 2) := by decide +kernel
theorem dX7_say_39 : decode prog_9_method_6_code 39 = .ok (.iastore, 1) := by decide +kernel
theorem dX7_say_40 : decode prog_9_method_6_code 40 = .ok (.aload_n 0, 1) := by decide +kernel
theorem dX7_say_41 : decode prog_9_method_6_code 41 = .ok (.getfield 27, 3) := by decide +kernel
theorem dX7_say_44 : decode prog_9_method_6_code 44 = .ok (.iload_n 1, 1) := by decide +kernel
theorem dX7_say_45 : decode prog_9_method_6_code 45 = .ok (.iload 5, 2) := by decide +kernel
theorem dX7_say_47 : decode prog_9_method_6_code 47 = .ok (.iastore, 1) := by decide +kernel
theorem dX7_say_48 : decode prog_9_method_6_code 48 = .ok (.aload_n 0, 1) := by decide +kernel
theorem dX7_say_49 : decode prog_9_method_6_code 49 = .ok (.getfield 30, 3) := by decide +kernel
theorem dX7_say_52 : decode prog_9_method_6_code 52 = .ok (.iload_n 1, 1) := by decide +kernel
theorem dX7_say_53 : decode prog_9_method_6_code 53 = .ok (.iload 6, 2) := by decide +kernel
theorem dX7_say_55 : decode prog_9_method_6_code 55 = .ok (.iastore, 1) := by decide +kernel
theorem dX7_say_56 : decode prog_9_method_6_code 56 = .ok (.return_, 1) := by decide +kernel
noncomputable def F_X7_say (v1 : Int) (v2 : Int) (v3 : Int) (v4 : Int) (v5 : Int) (v6 : Int) (M : bM) : Option (bM) :=
  b_bind (F_X7_has v1 M) (fun x1 => if x1 = 0 then (some M) else (b_g ((b_i32 (v1 * 3)) ∧ (0 ≤ (v1 * 3) ∧ (v1 * 3) < 360)) (b_let (b_up M 115 (v1 * 3) v2) (fun M5 => b_g ((b_i32 (v1 * 3)) ∧ (b_i32 ((v1 * 3) + 1)) ∧ (0 ≤ ((v1 * 3) + 1) ∧ ((v1 * 3) + 1) < 360)) (b_let (b_up M5 115 ((v1 * 3) + 1) v3) (fun M9 => b_g ((b_i32 (v1 * 3)) ∧ (b_i32 ((v1 * 3) + 2)) ∧ (0 ≤ ((v1 * 3) + 2) ∧ ((v1 * 3) + 2) < 360)) (b_let (b_up M9 115 ((v1 * 3) + 2) v4) (fun M13 => b_g (0 ≤ v1 ∧ v1 < 120) (b_let (b_up M13 113 v1 v5) (fun M15 => b_g (0 ≤ v1 ∧ v1 < 120) (b_let (b_up M15 114 v1 v6) (fun M17 => some M17))))))))))))
theorem t_X7_say {l : Launch} {E : bE} {Q : bM → Prop} {v1 : Int} {v2 : Int} {v3 : Int} {v4 : Int} {v5 : Int} {v6 : Int} {M : bM} (h : b_wp (F_X7_say v1 v2 v3 v4 v5 v6 M) (Q)) : V l E xX7_say (0, 0) 0 [(0, bR 5), (1, bI v1), (2, bI v2), (3, bI v3), (4, bI v4), (5, bI v5), (6, bI v6)] [] M (b_pV Q) := by
  unfold F_X7_say at h
  refine v_aload_n (f := 0) 0 rfl dX7_say_0 ?_
  refine v_iload_n (f := 1) 1 rfl dX7_say_1 ?_
  refine v_cVIp (nA := 1) (As := [bI _]) (ix := 105) (cf_X7_has (b_wp_b h)) rfl kd_5 rfl rfl wc_X7_has wm_7_105 wi_X7_has ws_X7_has wn_7 ⟨by decide, by decide, by decide⟩ rfl ⟨by decide, by decide⟩ ⟨by decide, by decide⟩ (Nat.le_of_ble_eq_true rfl) dX7_say_2 (fun x1 h => ?_)
  refine v_if_eq (tgt := 56) dX7_say_5 (by decide) (fun c2 => ?_) (fun c2 => ?_)
  · replace h := b_wp_t c2 h
    refine v_return rfl dX7_say_56 ⟨by decide, by decide⟩ ?_
    exact ⟨rfl, h⟩
  · replace h := b_wp_f c2 h
    obtain ⟨⟨g3, g4⟩, h⟩ := b_wp_g h
    refine v_aload_n (f := 0) 0 rfl dX7_say_8 ?_
    refine v_getR (kf := 7) (kz := 7) rfl kd_5 rfl ⟨by decide, by decide⟩ rfl wf_7_33 dX7_say_9 ?_
    refine v_iload_n (f := 1) 1 rfl dX7_say_12 ?_
    refine v_iconst ⟨by decide, by decide⟩ dX7_say_13 ?_
    refine v_imulN g3 dX7_say_14 ?_
    refine v_iload_n (f := 2) 2 rfl dX7_say_15 ?_
    refine v_iastore kd_115 g4 (by decide) dX7_say_16 ?_
    replace h := b_wp_l h
    obtain ⟨⟨g6, g7, g8⟩, h⟩ := b_wp_g h
    refine v_aload_n (f := 0) 0 rfl dX7_say_17 ?_
    refine v_getR (kf := 7) (kz := 7) rfl kd_5 rfl ⟨by decide, by decide⟩ rfl wf_7_33 dX7_say_18 ?_
    refine v_iload_n (f := 1) 1 rfl dX7_say_21 ?_
    refine v_iconst ⟨by decide, by decide⟩ dX7_say_22 ?_
    refine v_imulN g6 dX7_say_23 ?_
    refine v_iconst ⟨by decide, by decide⟩ dX7_say_24 ?_
    refine v_iaddN g7 dX7_say_25 ?_
    refine v_iload_n (f := 3) 3 rfl dX7_say_26 ?_
    refine v_iastore kd_115 g8 (by decide) dX7_say_27 ?_
    replace h := b_wp_l h
    obtain ⟨⟨g10, g11, g12⟩, h⟩ := b_wp_g h
    refine v_aload_n (f := 0) 0 rfl dX7_say_28 ?_
    refine v_getR (kf := 7) (kz := 7) rfl kd_5 rfl ⟨by decide, by decide⟩ rfl wf_7_33 dX7_say_29 ?_
    refine v_iload_n (f := 1) 1 rfl dX7_say_32 ?_
    refine v_iconst ⟨by decide, by decide⟩ dX7_say_33 ?_
    refine v_imulN g10 dX7_say_34 ?_
    refine v_iconst ⟨by decide, by decide⟩ dX7_say_35 ?_
    refine v_iaddN g11 dX7_say_36 ?_
    refine v_iload (i := 4) 4 rfl dX7_say_37 ?_
    refine v_iastore kd_115 g12 (by decide) dX7_say_39 ?_
    replace h := b_wp_l h
    obtain ⟨g14, h⟩ := b_wp_g h
    refine v_aload_n (f := 0) 0 rfl dX7_say_40 ?_
    refine v_getR (kf := 5) (kz := 5) rfl kd_5 rfl ⟨by decide, by decide⟩ rfl wf_7_27 dX7_say_41 ?_
    refine v_iload_n (f := 1) 1 rfl dX7_say_44 ?_
    refine v_iload (i := 5) 5 rfl dX7_say_45 ?_
    refine v_iastore kd_113 g14 (by decide) dX7_say_47 ?_
    replace h := b_wp_l h
    obtain ⟨g16, h⟩ := b_wp_g h
    refine v_aload_n (f := 0) 0 rfl dX7_say_48 ?_
    refine v_getR (kf := 6) (kz := 6) rfl kd_5 rfl ⟨by decide, by decide⟩ rfl wf_7_30 dX7_say_49 ?_
    refine v_iload_n (f := 1) 1 rfl dX7_say_52 ?_
    refine v_iload (i := 6) 6 rfl dX7_say_53 ?_
    refine v_iastore kd_114 g16 (by decide) dX7_say_55 ?_
    replace h := b_wp_l h
    refine v_return rfl dX7_say_56 ⟨by decide, by decide⟩ ?_
    exact ⟨rfl, h⟩
theorem cf_X7_say {l : Launch} {E : bE} {M : bM} {v1 : Int} {v2 : Int} {v3 : Int} {v4 : Int} {v5 : Int} {v6 : Int} {Q : bM → Prop} (h : b_wp (F_X7_say v1 v2 v3 v4 v5 v6 M) Q) : b_C l E xX7_say yX7_say [bR 5, bI v1, bI v2, bI v3, bI v4, bI v5, bI v6] M (b_pV Q) := b_met (by decide) ⟨rfl, rfl⟩ (Nat.le_of_ble_eq_true rfl) (fun _ _ => t_X7_say h)
abbrev xX0_ofTwo : bX := ("BurntHall$Act", prog_2_method_9_code, 3, (Option.some Jvm.ClassFile.FieldType.int), b_rm 1 0 0, 0, "ofTwo")
abbrev yX0_ofTwo : MethodName := ⟨"BurntHall$Act", "ofTwo", "(III)I"⟩
theorem dX0_ofTwo_0 : decode prog_2_method_9_code 0 = .ok (.iload_n 0, 1) := by decide +kernel
theorem dX0_ofTwo_1 : decode prog_2_method_9_code 1 = .ok (.tableswitch 76 2 6 #[35, 39, 50, 61, 72], 35) := by decide +kernel
theorem dX0_ofTwo_36 : decode prog_2_method_9_code 36 = .ok (.iload_n 1, 1) := by decide +kernel
theorem dX0_ofTwo_37 : decode prog_2_method_9_code 37 = .ok (.iload_n 2, 1) := by decide +kernel
theorem dX0_ofTwo_38 : decode prog_2_method_9_code 38 = .ok (.iadd, 1) := by decide +kernel
theorem dX0_ofTwo_39 : decode prog_2_method_9_code 39 = .ok (.ireturn, 1) := by decide +kernel
theorem dX0_ofTwo_40 : decode prog_2_method_9_code 40 = .ok (.iload_n 1, 1) := by decide +kernel
theorem dX0_ofTwo_41 : decode prog_2_method_9_code 41 = .ok (.iload_n 2, 1) := by decide +kernel
theorem dX0_ofTwo_42 : decode prog_2_method_9_code 42 = .ok (.if_icmp .le 7, 3) := by decide +kernel
theorem dX0_ofTwo_45 : decode prog_2_method_9_code 45 = .ok (.iconst 1, 1) := by decide +kernel
theorem dX0_ofTwo_46 : decode prog_2_method_9_code 46 = .ok (.goto 4, 3) := by decide +kernel
theorem dX0_ofTwo_49 : decode prog_2_method_9_code 49 = .ok (.iconst 0, 1) := by decide +kernel
theorem dX0_ofTwo_50 : decode prog_2_method_9_code 50 = .ok (.ireturn, 1) := by decide +kernel
theorem dX0_ofTwo_51 : decode prog_2_method_9_code 51 = .ok (.iload_n 1, 1) := by decide +kernel
theorem dX0_ofTwo_52 : decode prog_2_method_9_code 52 = .ok (.iload_n 2, 1) := by decide +kernel
theorem dX0_ofTwo_53 : decode prog_2_method_9_code 53 = .ok (.if_icmp .ge 7, 3) := by decide +kernel
theorem dX0_ofTwo_56 : decode prog_2_method_9_code 56 = .ok (.iconst 1, 1) := by decide +kernel
theorem dX0_ofTwo_57 : decode prog_2_method_9_code 57 = .ok (.goto 4, 3) := by decide +kernel
theorem dX0_ofTwo_60 : decode prog_2_method_9_code 60 = .ok (.iconst 0, 1) := by decide +kernel
theorem dX0_ofTwo_61 : decode prog_2_method_9_code 61 = .ok (.ireturn, 1) := by decide +kernel
theorem dX0_ofTwo_62 : decode prog_2_method_9_code 62 = .ok (.iload_n 1, 1) := by decide +kernel
theorem dX0_ofTwo_63 : decode prog_2_method_9_code 63 = .ok (.iload_n 2, 1) := by decide +kernel
theorem dX0_ofTwo_64 : decode prog_2_method_9_code 64 = .ok (.if_icmp .ne 7, 3) := by decide +kernel
theorem dX0_ofTwo_67 : decode prog_2_method_9_code 67 = .ok (.iconst 1, 1) := by decide +kernel
theorem dX0_ofTwo_68 : decode prog_2_method_9_code 68 = .ok (.goto 4, 3) := by decide +kernel
theorem dX0_ofTwo_71 : decode prog_2_method_9_code 71 = .ok (.iconst 0, 1) := by decide +kernel
theorem dX0_ofTwo_72 : decode prog_2_method_9_code 72 = .ok (.ireturn, 1) := by decide +kernel
theorem dX0_ofTwo_73 : decode prog_2_method_9_code 73 = .ok (.iload_n 1, 1) := by decide +kernel
theorem dX0_ofTwo_74 : decode prog_2_method_9_code 74 = .ok (.iload_n 2, 1) := by decide +kernel
theorem dX0_ofTwo_75 : decode prog_2_method_9_code 75 = .ok (.iand, 1) := by decide +kernel
theorem dX0_ofTwo_76 : decode prog_2_method_9_code 76 = .ok (.ireturn, 1) := by decide +kernel
theorem dX0_ofTwo_77 : decode prog_2_method_9_code 77 = .ok (.iload_n 1, 1) := by decide +kernel
theorem dX0_ofTwo_78 : decode prog_2_method_9_code 78 = .ok (.iload_n 2, 1) := by decide +kernel
theorem dX0_ofTwo_79 : decode prog_2_method_9_code 79 = .ok (.ior, 1) := by decide +kernel
theorem dX0_ofTwo_80 : decode prog_2_method_9_code 80 = .ok (.ireturn, 1) := by decide +kernel
noncomputable def F_X0_ofTwo (v0 : Int) (v1 : Int) (v2 : Int) (M : bM) : Option (Int) :=
  if v0 = 2 then (b_g (b_i32 (v1 + v2)) (some (v1 + v2))) else (if v0 = 3 then (if v1 ≤ v2 then (some 0) else (some 1)) else (if v0 = 4 then (if v2 ≤ v1 then (some 0) else (some 1)) else (if v0 = 5 then (if v1 = v2 then (some 1) else (some 0)) else (if v0 = 6 then (some (i_and v1 v2)) else (some (i_or v1 v2))))))
theorem t_X0_ofTwo {l : Launch} {E : bE} {Q : Int → Prop} {v0 : Int} {v1 : Int} {v2 : Int} {M : bM} (h : b_wp (F_X0_ofTwo v0 v1 v2 M) (Q)) : V l E xX0_ofTwo (0, 0) 0 [(0, bI v0), (1, bI v1), (2, bI v2)] [] M (b_pIp M Q) := by
  unfold F_X0_ofTwo at h
  refine v_iload_n (f := 0) 0 rfl dX0_ofTwo_0 ?_
  refine v_case (v := 2) (fun c1 => ?_) (fun c2 => ?_)
  · refine v_tsIn (tgt := 36) (2) c1 (by decide) (by decide) rfl dX0_ofTwo_1 (by decide) ?_
    replace h := b_wp_t c1 h
    obtain ⟨g3, h⟩ := b_wp_g h
    refine v_iload_n (f := 1) 1 rfl dX0_ofTwo_36 ?_
    refine v_iload_n (f := 2) 2 rfl dX0_ofTwo_37 ?_
    refine v_iaddN g3 dX0_ofTwo_38 ?_
    refine v_ireturn rfl dX0_ofTwo_39 ⟨by decide, by decide⟩ ?_
    exact ⟨_, rfl, rfl, h⟩
  replace h := b_wp_f c2 h
  refine v_case (v := 3) (fun c4 => ?_) (fun c5 => ?_)
  · refine v_tsIn (tgt := 40) (3) c4 (by decide) (by decide) rfl dX0_ofTwo_1 (by decide) ?_
    replace h := b_wp_t c4 h
    refine v_iload_n (f := 1) 1 rfl dX0_ofTwo_40 ?_
    refine v_iload_n (f := 2) 2 rfl dX0_ofTwo_41 ?_
    refine v_icmp_le (tgt := 49) dX0_ofTwo_42 (by decide) (fun c6 => ?_) (fun c6 => ?_)
    · replace h := b_wp_t c6 h
      refine v_iconst ⟨by decide, by decide⟩ dX0_ofTwo_49 ?_
      refine v_ireturn rfl dX0_ofTwo_50 ⟨by decide, by decide⟩ ?_
      exact ⟨_, rfl, rfl, h⟩
    · replace h := b_wp_f c6 h
      refine v_iconst ⟨by decide, by decide⟩ dX0_ofTwo_45 ?_
      refine v_goto (tgt := 50) dX0_ofTwo_46 (by decide) ?_
      refine v_ireturn rfl dX0_ofTwo_50 ⟨by decide, by decide⟩ ?_
      exact ⟨_, rfl, rfl, h⟩
  replace h := b_wp_f c5 h
  refine v_case (v := 4) (fun c7 => ?_) (fun c8 => ?_)
  · refine v_tsIn (tgt := 51) (4) c7 (by decide) (by decide) rfl dX0_ofTwo_1 (by decide) ?_
    replace h := b_wp_t c7 h
    refine v_iload_n (f := 1) 1 rfl dX0_ofTwo_51 ?_
    refine v_iload_n (f := 2) 2 rfl dX0_ofTwo_52 ?_
    refine v_icmp_ge (tgt := 60) dX0_ofTwo_53 (by decide) (fun c9 => ?_) (fun c9 => ?_)
    · replace h := b_wp_t c9 h
      refine v_iconst ⟨by decide, by decide⟩ dX0_ofTwo_60 ?_
      refine v_ireturn rfl dX0_ofTwo_61 ⟨by decide, by decide⟩ ?_
      exact ⟨_, rfl, rfl, h⟩
    · replace h := b_wp_f c9 h
      refine v_iconst ⟨by decide, by decide⟩ dX0_ofTwo_56 ?_
      refine v_goto (tgt := 61) dX0_ofTwo_57 (by decide) ?_
      refine v_ireturn rfl dX0_ofTwo_61 ⟨by decide, by decide⟩ ?_
      exact ⟨_, rfl, rfl, h⟩
  replace h := b_wp_f c8 h
  refine v_case (v := 5) (fun c10 => ?_) (fun c11 => ?_)
  · refine v_tsIn (tgt := 62) (5) c10 (by decide) (by decide) rfl dX0_ofTwo_1 (by decide) ?_
    replace h := b_wp_t c10 h
    refine v_iload_n (f := 1) 1 rfl dX0_ofTwo_62 ?_
    refine v_iload_n (f := 2) 2 rfl dX0_ofTwo_63 ?_
    refine v_icmp_ne (tgt := 71) dX0_ofTwo_64 (by decide) (fun c12 => ?_) (fun c12 => ?_)
    · replace h := b_wp_f c12 h
      refine v_iconst ⟨by decide, by decide⟩ dX0_ofTwo_71 ?_
      refine v_ireturn rfl dX0_ofTwo_72 ⟨by decide, by decide⟩ ?_
      exact ⟨_, rfl, rfl, h⟩
    · replace h := b_wp_t c12 h
      refine v_iconst ⟨by decide, by decide⟩ dX0_ofTwo_67 ?_
      refine v_goto (tgt := 72) dX0_ofTwo_68 (by decide) ?_
      refine v_ireturn rfl dX0_ofTwo_72 ⟨by decide, by decide⟩ ?_
      exact ⟨_, rfl, rfl, h⟩
  replace h := b_wp_f c11 h
  refine v_case (v := 6) (fun c13 => ?_) (fun c14 => ?_)
  · refine v_tsIn (tgt := 73) (6) c13 (by decide) (by decide) rfl dX0_ofTwo_1 (by decide) ?_
    replace h := b_wp_t c13 h
    refine v_iload_n (f := 1) 1 rfl dX0_ofTwo_73 ?_
    refine v_iload_n (f := 2) 2 rfl dX0_ofTwo_74 ?_
    refine v_iand (v := i_and _ _) rfl dX0_ofTwo_75 ?_
    refine v_ireturn rfl dX0_ofTwo_76 ⟨by decide, by decide⟩ ?_
    exact ⟨_, rfl, rfl, h⟩
  replace h := b_wp_f c14 h
  refine v_tsOut (tgt := 77) (by omega) dX0_ofTwo_1 (by decide) ?_
  refine v_iload_n (f := 1) 1 rfl dX0_ofTwo_77 ?_
  refine v_iload_n (f := 2) 2 rfl dX0_ofTwo_78 ?_
  refine v_ior (v := i_or _ _) rfl dX0_ofTwo_79 ?_
  refine v_ireturn rfl dX0_ofTwo_80 ⟨by decide, by decide⟩ ?_
  exact ⟨_, rfl, rfl, h⟩
theorem cf_X0_ofTwo {l : Launch} {E : bE} {M : bM} {v0 : Int} {v1 : Int} {v2 : Int} {Q : Int → Prop} (h : b_wp (F_X0_ofTwo v0 v1 v2 M) Q) : b_C l E xX0_ofTwo yX0_ofTwo [bI v0, bI v1, bI v2] M (b_pIp M Q) := b_met (by decide) ⟨rfl, rfl⟩ (Nat.le_of_ble_eq_true rfl) (fun _ _ => t_X0_ofTwo h)
abbrev xX7_mark : bX := ("BurntHall$Papers", prog_9_method_9_code, 5, (Option.some Jvm.ClassFile.FieldType.int), b_rm 2 0 0, 0, "mark")
abbrev yX7_mark : MethodName := ⟨"BurntHall$Papers", "mark", "(IJ)I"⟩
theorem dX7_mark_0 : decode prog_9_method_9_code 0 = .ok (.aload_n 0, 1) := by decide +kernel
theorem dX7_mark_1 : decode prog_9_method_9_code 1 = .ok (.iload_n 1, 1) := by decide +kernel
theorem dX7_mark_2 : decode prog_9_method_9_code 2 = .ok (.invokevirtual 105, 3) := by decide +kernel
theorem dX7_mark_5 : decode prog_9_method_9_code 5 = .ok (.ifCond .ne 5, 3) := by decide +kernel
theorem dX7_mark_8 : decode prog_9_method_9_code 8 = .ok (.iconst 0, 1) := by decide +kernel
theorem dX7_mark_9 : decode prog_9_method_9_code 9 = .ok (.ireturn, 1) := by decide +kernel
theorem dX7_mark_10 : decode prog_9_method_9_code 10 = .ok (.iconst 0, 1) := by decide +kernel
theorem dX7_mark_11 : decode prog_9_method_9_code 11 = .ok (.istore 4, 2) := by decide +kernel
theorem dX7_mark_13 : decode prog_9_method_9_code 13 = .ok (.iload 4, 2) := by decide +kernel
theorem dX7_mark_15 : decode prog_9_method_9_code 15 = .ok (.aload_n 0, 1) := by decide +kernel
theorem dX7_mark_16 : decode prog_9_method_9_code 16 = .ok (.getfield 45, 3) := by decide +kernel
theorem dX7_mark_19 : decode prog_9_method_9_code 19 = .ok (.iload_n 1, 1) := by decide +kernel
theorem dX7_mark_20 : decode prog_9_method_9_code 20 = .ok (.iaload, 1) := by decide +kernel
theorem dX7_mark_21 : decode prog_9_method_9_code 21 = .ok (.if_icmp .ge 39, 3) := by decide +kernel
theorem dX7_mark_24 : decode prog_9_method_9_code 24 = .ok (.aload_n 0, 1) := by decide +kernel
theorem dX7_mark_25 : decode prog_9_method_9_code 25 = .ok (.getfield 48, 3) := by decide +kernel
theorem dX7_mark_28 : decode prog_9_method_9_code 28 = .ok (.iload_n 1, 1) := by decide +kernel
theorem dX7_mark_29 : decode prog_9_method_9_code 29 = .ok (.bipush 12, 2) := by decide +kernel
theorem dX7_mark_31 : decode prog_9_method_9_code 31 = .ok (.imul, 1) := by decide +kernel
theorem dX7_mark_32 : decode prog_9_method_9_code 32 = .ok (.iload 4, 2) := by decide +kernel
theorem dX7_mark_34 : decode prog_9_method_9_code 34 = .ok (.iadd, 1) := by decide +kernel
theorem dX7_mark_35 : decode prog_9_method_9_code 35 = .ok (.laload, 1) := by decide +kernel
theorem dX7_mark_36 : decode prog_9_method_9_code 36 = .ok (.lload_n 2, 1) := by decide +kernel
theorem dX7_mark_37 : decode prog_9_method_9_code 37 = .ok (.lcmp, 1) := by decide +kernel
theorem dX7_mark_38 : decode prog_9_method_9_code 38 = .ok (.ifCond .ne 16, 3) := by decide +kernel
theorem dX7_mark_41 : decode prog_9_method_9_code 41 = .ok (.aload_n 0, 1) := by decide +kernel
theorem dX7_mark_42 : decode prog_9_method_9_code 42 = .ok (.getfield 52, 3) := by decide +kernel
theorem dX7_mark_45 : decode prog_9_method_9_code 45 = .ok (.iload_n 1, 1) := by decide +kernel
theorem dX7_mark_46 : decode prog_9_method_9_code 46 = .ok (.bipush 12, 2) := by decide +kernel
theorem dX7_mark_48 : decode prog_9_method_9_code 48 = .ok (.imul, 1) := by decide +kernel
theorem dX7_mark_49 : decode prog_9_method_9_code 49 = .ok (.iload 4, 2) := by decide +kernel
theorem dX7_mark_51 : decode prog_9_method_9_code 51 = .ok (.iadd, 1) := by decide +kernel
theorem dX7_mark_52 : decode prog_9_method_9_code 52 = .ok (.iaload, 1) := by decide +kernel
theorem dX7_mark_53 : decode prog_9_method_9_code 53 = .ok (.ireturn, 1) := by decide +kernel
theorem dX7_mark_54 : decode prog_9_method_9_code 54 = .ok (.iinc 4 1, 3) := by decide +kernel
theorem dX7_mark_57 : decode prog_9_method_9_code 57 = .ok (.goto (-44), 3) := by decide +kernel
theorem dX7_mark_60 : decode prog_9_method_9_code 60 = .ok (.iconst 0, 1) := by decide +kernel
theorem dX7_mark_61 : decode prog_9_method_9_code 61 = .ok (.ireturn, 1) := by decide +kernel
abbrev A_X7_mark_13 (l : Launch) (E : bE) (Q : Int → Prop) (v1 : Int) (v2 : Int) (M : bM) : (Int) → Prop := (fun t : Int => V l E xX7_mark (0, 0) 13 [(0, bR 5), (1, bI v1), (2, bJ v2), (4, bI t)] [] M (b_pIp M Q))
abbrev X_X7_mark_13 (l : Launch) (E : bE) (Q : Int → Prop) (v1 : Int) (v2 : Int) (M : bM) : ((Unit) ⊕ Int) → Prop := (Sum.elim (fun t : Unit => V l E xX7_mark (0, 0) 60 [] [] M (b_pIp M Q)) Q)
noncomputable def F_X7_mark_s13 (v1 : Int) (v2 : Int) (v4 : Int) (M : bM) : Option ((Int) ⊕ ((Unit) ⊕ Int)) :=
  b_g (0 ≤ v1 ∧ v1 < 120) (if (M 119 v1) ≤ v4 then (some (.inr (.inl ()))) else (b_g ((b_i32 (v1 * 12)) ∧ (b_i32 ((v1 * 12) + v4)) ∧ (0 ≤ ((v1 * 12) + v4) ∧ ((v1 * 12) + v4) < 1440)) (if (j_cmp (M 120 ((v1 * 12) + v4)) v2) = 0 then (b_g ((b_i32 (v1 * 12)) ∧ (b_i32 ((v1 * 12) + v4)) ∧ (0 ≤ ((v1 * 12) + v4) ∧ ((v1 * 12) + v4) < 1440)) (some (.inr (.inr (M 121 ((v1 * 12) + v4)))))) else (b_g (b_i32 (v4 + 1)) (some (.inl ((v4 + 1))))))))
theorem t_X7_mark_s13 {l : Launch} {E : bE} {Q : Int → Prop} {v1 : Int} {v2 : Int} {v4 : Int} {M : bM} (h : b_wp (F_X7_mark_s13 v1 v2 v4 M) (Sum.elim (A_X7_mark_13 l E Q v1 v2 M) (X_X7_mark_13 l E Q v1 v2 M))) : V l E xX7_mark (0, 0) 13 [(0, bR 5), (1, bI v1), (2, bJ v2), (4, bI v4)] [] M (b_pIp M Q) := by
  unfold F_X7_mark_s13 at h
  obtain ⟨g3, h⟩ := b_wp_g h
  refine v_iload (i := 4) 3 rfl dX7_mark_13 ?_
  refine v_aload_n (f := 0) 0 rfl dX7_mark_15 ?_
  refine v_getR (kf := 11) (kz := 11) rfl kd_5 rfl ⟨by decide, by decide⟩ rfl wf_7_45 dX7_mark_16 ?_
  refine v_iload_n (f := 1) 1 rfl dX7_mark_19 ?_
  refine v_iaload kd_119 g3 (by decide) dX7_mark_20 ?_
  refine v_icmp_ge (tgt := 60) dX7_mark_21 (by decide) (fun c4 => ?_) (fun c4 => ?_)
  · replace h := b_wp_t c4 h
    refine v_sub (ls2 := []) [] rfl ?_
    exact h
  · replace h := b_wp_f c4 h
    obtain ⟨⟨g5, g6, g7⟩, h⟩ := b_wp_g h
    refine v_aload_n (f := 0) 0 rfl dX7_mark_24 ?_
    refine v_getR (kf := 12) (kz := 12) rfl kd_5 rfl ⟨by decide, by decide⟩ rfl wf_7_48 dX7_mark_25 ?_
    refine v_iload_n (f := 1) 1 rfl dX7_mark_28 ?_
    refine v_bipush ⟨by decide, by decide⟩ (by decide) dX7_mark_29 ?_
    refine v_imulN g5 dX7_mark_31 ?_
    refine v_iload (i := 4) 3 rfl dX7_mark_32 ?_
    refine v_iaddN g6 dX7_mark_34 ?_
    refine v_laload kd_120 g7 (by decide) dX7_mark_35 ?_
    refine v_lload_n (f := 2) 2 rfl dX7_mark_36 ?_
    refine v_lcmpN dX7_mark_37 ?_
    refine v_if_ne (tgt := 54) dX7_mark_38 (by decide) (fun c8 => ?_) (fun c8 => ?_)
    · replace h := b_wp_f c8 h
      obtain ⟨g9, h⟩ := b_wp_g h
      refine v_iincN (ls' := [(4, bI _), (0, bR _), (1, bI _), (2, bJ _)]) 3 rfl (by decide) g9 dX7_mark_54 rfl ?_
      refine v_goto (tgt := 13) dX7_mark_57 (by decide) ?_
      refine v_sub (ls2 := [(0, bR _), (1, bI _), (2, bJ _), (4, bI _)]) [1, 2, 3, 0] rfl ?_
      exact h
    · replace h := b_wp_t c8 h
      obtain ⟨⟨g10, g11, g12⟩, h⟩ := b_wp_g h
      refine v_aload_n (f := 0) 0 rfl dX7_mark_41 ?_
      refine v_getR (kf := 13) (kz := 13) rfl kd_5 rfl ⟨by decide, by decide⟩ rfl wf_7_52 dX7_mark_42 ?_
      refine v_iload_n (f := 1) 1 rfl dX7_mark_45 ?_
      refine v_bipush ⟨by decide, by decide⟩ (by decide) dX7_mark_46 ?_
      refine v_imulN g10 dX7_mark_48 ?_
      refine v_iload (i := 4) 3 rfl dX7_mark_49 ?_
      refine v_iaddN g11 dX7_mark_51 ?_
      refine v_iaload kd_121 g12 (by decide) dX7_mark_52 ?_
      refine v_ireturn rfl dX7_mark_53 ⟨by decide, by decide⟩ ?_
      exact ⟨_, rfl, rfl, h⟩
theorem l_X7_mark_13 {l : Launch} {E : bE} {Q : Int → Prop} {v1 : Int} {v2 : Int} {M : bM} {s : Int} (h : b_wp (b_loop (fun t => F_X7_mark_s13 v1 v2 t M) s) (X_X7_mark_13 l E Q v1 v2 M)) : A_X7_mark_13 l E Q v1 v2 M s := b_loop_wp (fun t h => t_X7_mark_s13 h) s h
noncomputable def F_X7_mark_b60 (M : bM) : Option (Int) :=
  some 0
theorem t_X7_mark_b60 {l : Launch} {E : bE} {Q : Int → Prop} {M : bM} (h : b_wp (F_X7_mark_b60 M) (Q)) : V l E xX7_mark (0, 0) 60 [] [] M (b_pIp M Q) := by
  unfold F_X7_mark_b60 at h
  refine v_iconst ⟨by decide, by decide⟩ dX7_mark_60 ?_
  refine v_ireturn rfl dX7_mark_61 ⟨by decide, by decide⟩ ?_
  exact ⟨_, rfl, rfl, h⟩
noncomputable def F_X7_mark (v1 : Int) (v2 : Int) (M : bM) : Option (Int) :=
  b_bind (F_X7_has v1 M) (fun x1 => if x1 = 0 then (some 0) else (b_bind (b_loop (fun t => F_X7_mark_s13 v1 v2 t M) (0)) (Sum.elim (fun t => F_X7_mark_b60 M) some)))
theorem t_X7_mark {l : Launch} {E : bE} {Q : Int → Prop} {v1 : Int} {v2 : Int} {M : bM} (h : b_wp (F_X7_mark v1 v2 M) (Q)) : V l E xX7_mark (0, 0) 0 [(0, bR 5), (1, bI v1), (2, bJ v2)] [] M (b_pIp M Q) := by
  unfold F_X7_mark at h
  refine v_aload_n (f := 0) 0 rfl dX7_mark_0 ?_
  refine v_iload_n (f := 1) 1 rfl dX7_mark_1 ?_
  refine v_cVIp (nA := 1) (As := [bI _]) (ix := 105) (cf_X7_has (b_wp_b h)) rfl kd_5 rfl rfl wc_X7_has wm_7_105 wi_X7_has ws_X7_has wn_7 ⟨by decide, by decide, by decide⟩ rfl ⟨by decide, by decide⟩ ⟨by decide, by decide⟩ (Nat.le_of_ble_eq_true rfl) dX7_mark_2 (fun x1 h => ?_)
  refine v_if_ne (tgt := 10) dX7_mark_5 (by decide) (fun c2 => ?_) (fun c2 => ?_)
  · replace h := b_wp_f c2 h
    refine v_iconst ⟨by decide, by decide⟩ dX7_mark_10 ?_
    refine v_istore (i := 4) (ls' := [(4, bI _), (0, bR _), (1, bI _), (2, bJ _)]) (by decide) dX7_mark_11 rfl ?_
    refine v_sub (ls2 := [(0, bR _), (1, bI _), (2, bJ _), (4, bI _)]) [1, 2, 3, 0] rfl ?_
    refine l_X7_mark_13 (b_wp_m (fun t h => ?_) (b_wp_b h))
    cases t with
    | inr o => exact h
    | inl t =>
      show V l E xX7_mark (0, 0) 60 [] [] _ (b_pIp M Q)
      replace h := b_wp_inl h
      exact t_X7_mark_b60 h
  · replace h := b_wp_t c2 h
    refine v_iconst ⟨by decide, by decide⟩ dX7_mark_8 ?_
    refine v_ireturn rfl dX7_mark_9 ⟨by decide, by decide⟩ ?_
    exact ⟨_, rfl, rfl, h⟩
theorem cf_X7_mark {l : Launch} {E : bE} {M : bM} {v1 : Int} {v2 : Int} {Q : Int → Prop} (h : b_wp (F_X7_mark v1 v2 M) Q) : b_C l E xX7_mark yX7_mark [bR 5, bI v1, bJ v2] M (b_pIp M Q) := b_met (by decide) ⟨rfl, rfl⟩ (Nat.le_of_ble_eq_true rfl) (fun _ _ => t_X7_mark h)
abbrev xX0_holds : bX := ("BurntHall$Act", prog_2_method_8_code, 11, (Option.some Jvm.ClassFile.FieldType.boolean), b_rm 3 0 0, 0, "holds")
abbrev yX0_holds : MethodName := ⟨"BurntHall$Act", "holds", "(ILBurntHall$Papers;I[I)Z"⟩
theorem dX0_holds_0 : decode prog_2_method_8_code 0 = .ok (.iconst 0, 1) := by decide +kernel
theorem dX0_holds_1 : decode prog_2_method_8_code 1 = .ok (.istore 5, 2) := by decide +kernel
theorem dX0_holds_3 : decode prog_2_method_8_code 3 = .ok (.aload_n 0, 1) := by decide +kernel
theorem dX0_holds_4 : decode prog_2_method_8_code 4 = .ok (.getfield 16, 3) := by decide +kernel
theorem dX0_holds_7 : decode prog_2_method_8_code 7 = .ok (.iload_n 1, 1) := by decide +kernel
theorem dX0_holds_8 : decode prog_2_method_8_code 8 = .ok (.iaload, 1) := by decide +kernel
theorem dX0_holds_9 : decode prog_2_method_8_code 9 = .ok (.istore 6, 2) := by decide +kernel
theorem dX0_holds_11 : decode prog_2_method_8_code 11 = .ok (.iload 6, 2) := by decide +kernel
theorem dX0_holds_13 : decode prog_2_method_8_code 13 = .ok (.aload_n 0, 1) := by decide +kernel
theorem dX0_holds_14 : decode prog_2_method_8_code 14 = .ok (.getfield 16, 3) := by decide +kernel
theorem dX0_holds_17 : decode prog_2_method_8_code 17 = .ok (.iload_n 1, 1) := by decide +kernel
theorem dX0_holds_18 : decode prog_2_method_8_code 18 = .ok (.iconst 1, 1) := by decide +kernel
theorem dX0_holds_19 : decode prog_2_method_8_code 19 = .ok (.iadd, 1) := by decide +kernel
theorem dX0_holds_20 : decode prog_2_method_8_code 20 = .ok (.iaload, 1) := by decide +kernel
theorem dX0_holds_21 : decode prog_2_method_8_code 21 = .ok (.if_icmp .ge 181, 3) := by decide +kernel
theorem dX0_holds_24 : decode prog_2_method_8_code 24 = .ok (.iload 6, 2) := by decide +kernel
theorem dX0_holds_26 : decode prog_2_method_8_code 26 = .ok (.aload_n 0, 1) := by decide +kernel
theorem dX0_holds_27 : decode prog_2_method_8_code 27 = .ok (.getfield 19, 3) := by decide +kernel
theorem dX0_holds_30 : decode prog_2_method_8_code 30 = .ok (.arraylength, 1) := by decide +kernel
theorem dX0_holds_31 : decode prog_2_method_8_code 31 = .ok (.if_icmp .ge 171, 3) := by decide +kernel
theorem dX0_holds_34 : decode prog_2_method_8_code 34 = .ok (.aload_n 0, 1) := by decide +kernel
theorem dX0_holds_35 : decode prog_2_method_8_code 35 = .ok (.getfield 19, 3) := by decide +kernel
theorem dX0_holds_38 : decode prog_2_method_8_code 38 = .ok (.iload 6, 2) := by decide +kernel
theorem dX0_holds_40 : decode prog_2_method_8_code 40 = .ok (.laload, 1) := by decide +kernel
theorem dX0_holds_41 : decode prog_2_method_8_code 41 = .ok (.ldc2_w 51, 3) := by decide +kernel
theorem dX0_holds_44 : decode prog_2_method_8_code 44 = .ok (.land, 1) := by decide +kernel
theorem dX0_holds_45 : decode prog_2_method_8_code 45 = .ok (.l2i, 1) := by decide +kernel
theorem dX0_holds_46 : decode prog_2_method_8_code 46 = .ok (.istore 7, 2) := by decide +kernel
theorem dX0_holds_48 : decode prog_2_method_8_code 48 = .ok (.aload_n 0, 1) := by decide +kernel
theorem dX0_holds_49 : decode prog_2_method_8_code 49 = .ok (.getfield 19, 3) := by decide +kernel
theorem dX0_holds_52 : decode prog_2_method_8_code 52 = .ok (.iload 6, 2) := by decide +kernel
theorem dX0_holds_54 : decode prog_2_method_8_code 54 = .ok (.laload, 1) := by decide +kernel
theorem dX0_holds_55 : decode prog_2_method_8_code 55 = .ok (.iconst 4, 1) := by decide +kernel
theorem dX0_holds_56 : decode prog_2_method_8_code 56 = .ok (.lushr, 1) := by decide +kernel
theorem dX0_holds_57 : decode prog_2_method_8_code 57 = .ok (.lstore 8, 2) := by decide +kernel
theorem dX0_holds_59 : decode prog_2_method_8_code 59 = .ok (.iload 7, 2) := by decide +kernel
theorem dX0_holds_61 : decode prog_2_method_8_code 61 = .ok (.iconst 1, 1) := by decide +kernel
theorem dX0_holds_62 : decode prog_2_method_8_code 62 = .ok (.if_icmp .gt 40, 3) := by decide +kernel
theorem dX0_holds_65 : decode prog_2_method_8_code 65 = .ok (.iload 5, 2) := by decide +kernel
theorem dX0_holds_67 : decode prog_2_method_8_code 67 = .ok (.aload 4, 2) := by decide +kernel
theorem dX0_holds_69 : decode prog_2_method_8_code 69 = .ok (.arraylength, 1) := by decide +kernel
theorem dX0_holds_70 : decode prog_2_method_8_code 70 = .ok (.if_icmp .ge 126, 3) := by decide +kernel
theorem dX0_holds_73 : decode prog_2_method_8_code 73 = .ok (.aload 4, 2) := by decide +kernel
theorem dX0_holds_75 : decode prog_2_method_8_code 75 = .ok (.iload 5, 2) := by decide +kernel
theorem dX0_holds_77 : decode prog_2_method_8_code 77 = .ok (.iload 7, 2) := by decide +kernel
theorem dX0_holds_79 : decode prog_2_method_8_code 79 = .ok (.ifCond .ne 9, 3) := by decide +kernel
theorem dX0_holds_82 : decode prog_2_method_8_code 82 = .ok (.lload 8, 2) := by decide +kernel
theorem dX0_holds_84 : decode prog_2_method_8_code 84 = .ok (.l2i, 1) := by decide +kernel
theorem dX0_holds_85 : decode prog_2_method_8_code 85 = .ok (.goto 10, 3) := by decide +kernel
theorem dX0_holds_88 : decode prog_2_method_8_code 88 = .ok (.aload_n 2, 1) := by decide +kernel
theorem dX0_holds_89 : decode prog_2_method_8_code 89 = .ok (.iload_n 3, 1) := by decide +kernel
theorem dX0_holds_90 : decode prog_2_method_8_code 90 = .ok (.lload 8, 2) := by decide +kernel
theorem dX0_holds_92 : decode prog_2_method_8_code 92 = .ok (.invokevirtual 53, 3) := by decide +kernel
theorem dX0_holds_95 : decode prog_2_method_8_code 95 = .ok (.iastore, 1) := by decide +kernel
theorem dX0_holds_96 : decode prog_2_method_8_code 96 = .ok (.iinc 5 1, 3) := by decide +kernel
theorem dX0_holds_99 : decode prog_2_method_8_code 99 = .ok (.goto 97, 3) := by decide +kernel
theorem dX0_holds_102 : decode prog_2_method_8_code 102 = .ok (.iload 7, 2) := by decide +kernel
theorem dX0_holds_104 : decode prog_2_method_8_code 104 = .ok (.bipush 8, 2) := by decide +kernel
theorem dX0_holds_106 : decode prog_2_method_8_code 106 = .ok (.if_icmp .lt 57, 3) := by decide +kernel
theorem dX0_holds_109 : decode prog_2_method_8_code 109 = .ok (.iload 5, 2) := by decide +kernel
theorem dX0_holds_111 : decode prog_2_method_8_code 111 = .ok (.ifCond .le 85, 3) := by decide +kernel
theorem dX0_holds_114 : decode prog_2_method_8_code 114 = .ok (.aload 4, 2) := by decide +kernel
theorem dX0_holds_116 : decode prog_2_method_8_code 116 = .ok (.iload 5, 2) := by decide +kernel
theorem dX0_holds_118 : decode prog_2_method_8_code 118 = .ok (.iconst 1, 1) := by decide +kernel
theorem dX0_holds_119 : decode prog_2_method_8_code 119 = .ok (.isub, 1) := by decide +kernel
theorem dX0_holds_120 : decode prog_2_method_8_code 120 = .ok (.iaload, 1) := by decide +kernel
theorem dX0_holds_121 : decode prog_2_method_8_code 121 = .ok (.ifCond .le 7, 3) := by decide +kernel
theorem dX0_holds_124 : decode prog_2_method_8_code 124 = .ok (.iconst 1, 1) := by decide +kernel
theorem dX0_holds_125 : decode prog_2_method_8_code 125 = .ok (.goto 4, 3) := by decide +kernel
theorem dX0_holds_128 : decode prog_2_method_8_code 128 = .ok (.iconst 0, 1) := by decide +kernel
theorem dX0_holds_129 : decode prog_2_method_8_code 129 = .ok (.istore 10, 2) := by decide +kernel
theorem dX0_holds_131 : decode prog_2_method_8_code 131 = .ok (.aload 4, 2) := by decide +kernel
theorem dX0_holds_133 : decode prog_2_method_8_code 133 = .ok (.iload 5, 2) := by decide +kernel
theorem dX0_holds_135 : decode prog_2_method_8_code 135 = .ok (.iconst 1, 1) := by decide +kernel
theorem dX0_holds_136 : decode prog_2_method_8_code 136 = .ok (.isub, 1) := by decide +kernel
theorem dX0_holds_137 : decode prog_2_method_8_code 137 = .ok (.iload 10, 2) := by decide +kernel
theorem dX0_holds_139 : decode prog_2_method_8_code 139 = .ok (.iload 7, 2) := by decide +kernel
theorem dX0_holds_141 : decode prog_2_method_8_code 141 = .ok (.bipush 9, 2) := by decide +kernel
theorem dX0_holds_143 : decode prog_2_method_8_code 143 = .ok (.if_icmp .ne 7, 3) := by decide +kernel
theorem dX0_holds_146 : decode prog_2_method_8_code 146 = .ok (.iconst 1, 1) := by decide +kernel
theorem dX0_holds_147 : decode prog_2_method_8_code 147 = .ok (.goto 4, 3) := by decide +kernel
theorem dX0_holds_150 : decode prog_2_method_8_code 150 = .ok (.iconst 0, 1) := by decide +kernel
theorem dX0_holds_151 : decode prog_2_method_8_code 151 = .ok (.if_icmp .ne 7, 3) := by decide +kernel
theorem dX0_holds_154 : decode prog_2_method_8_code 154 = .ok (.iconst 1, 1) := by decide +kernel
theorem dX0_holds_155 : decode prog_2_method_8_code 155 = .ok (.goto 4, 3) := by decide +kernel
theorem dX0_holds_158 : decode prog_2_method_8_code 158 = .ok (.iconst 0, 1) := by decide +kernel
theorem dX0_holds_159 : decode prog_2_method_8_code 159 = .ok (.iastore, 1) := by decide +kernel
theorem dX0_holds_160 : decode prog_2_method_8_code 160 = .ok (.goto 36, 3) := by decide +kernel
theorem dX0_holds_163 : decode prog_2_method_8_code 163 = .ok (.iload 5, 2) := by decide +kernel
theorem dX0_holds_165 : decode prog_2_method_8_code 165 = .ok (.iconst 1, 1) := by decide +kernel
theorem dX0_holds_166 : decode prog_2_method_8_code 166 = .ok (.if_icmp .le 30, 3) := by decide +kernel
theorem dX0_holds_169 : decode prog_2_method_8_code 169 = .ok (.iinc 5 (-1), 3) := by decide +kernel
theorem dX0_holds_172 : decode prog_2_method_8_code 172 = .ok (.aload 4, 2) := by decide +kernel
theorem dX0_holds_174 : decode prog_2_method_8_code 174 = .ok (.iload 5, 2) := by decide +kernel
theorem dX0_holds_176 : decode prog_2_method_8_code 176 = .ok (.iconst 1, 1) := by decide +kernel
theorem dX0_holds_177 : decode prog_2_method_8_code 177 = .ok (.isub, 1) := by decide +kernel
theorem dX0_holds_178 : decode prog_2_method_8_code 178 = .ok (.iload 7, 2) := by decide +kernel
theorem dX0_holds_180 : decode prog_2_method_8_code 180 = .ok (.aload 4, 2) := by decide +kernel
theorem dX0_holds_182 : decode prog_2_method_8_code 182 = .ok (.iload 5, 2) := by decide +kernel
theorem dX0_holds_184 : decode prog_2_method_8_code 184 = .ok (.iconst 1, 1) := by decide +kernel
theorem dX0_holds_185 : decode prog_2_method_8_code 185 = .ok (.isub, 1) := by decide +kernel
theorem dX0_holds_186 : decode prog_2_method_8_code 186 = .ok (.iaload, 1) := by decide +kernel
theorem dX0_holds_187 : decode prog_2_method_8_code 187 = .ok (.aload 4, 2) := by decide +kernel
theorem dX0_holds_189 : decode prog_2_method_8_code 189 = .ok (.iload 5, 2) := by decide +kernel
theorem dX0_holds_191 : decode prog_2_method_8_code 191 = .ok (.iaload, 1) := by decide +kernel
theorem dX0_holds_192 : decode prog_2_method_8_code 192 = .ok (.invokestatic 57, 3) := by decide +kernel
theorem dX0_holds_195 : decode prog_2_method_8_code 195 = .ok (.iastore, 1) := by decide +kernel
theorem dX0_holds_196 : decode prog_2_method_8_code 196 = .ok (.iinc 6 1, 3) := by decide +kernel
theorem dX0_holds_199 : decode prog_2_method_8_code 199 = .ok (.goto (-188), 3) := by decide +kernel
theorem dX0_holds_202 : decode prog_2_method_8_code 202 = .ok (.iload 5, 2) := by decide +kernel
theorem dX0_holds_204 : decode prog_2_method_8_code 204 = .ok (.ifCond .le 14, 3) := by decide +kernel
theorem dX0_holds_207 : decode prog_2_method_8_code 207 = .ok (.aload 4, 2) := by decide +kernel
theorem dX0_holds_209 : decode prog_2_method_8_code 209 = .ok (.iconst 0, 1) := by decide +kernel
theorem dX0_holds_210 : decode prog_2_method_8_code 210 = .ok (.iaload, 1) := by decide +kernel
theorem dX0_holds_211 : decode prog_2_method_8_code 211 = .ok (.ifCond .le 7, 3) := by decide +kernel
theorem dX0_holds_214 : decode prog_2_method_8_code 214 = .ok (.iconst 1, 1) := by decide +kernel
theorem dX0_holds_215 : decode prog_2_method_8_code 215 = .ok (.goto 4, 3) := by decide +kernel
theorem dX0_holds_218 : decode prog_2_method_8_code 218 = .ok (.iconst 0, 1) := by decide +kernel
theorem dX0_holds_219 : decode prog_2_method_8_code 219 = .ok (.ireturn, 1) := by decide +kernel
abbrev A_X0_holds_a_5_125_11 (l : Launch) (E : bE) (Q : (Int × bM) → Prop) (v0 : Nat) (v1 : Int) (v3 : Int) : (Int × Int × bM) → Prop := (fun t : Int × Int × bM => V l E xX0_holds (0, 0) 11 [(0, bR v0), (1, bI v1), (2, bR 5), (3, bI v3), (4, bR 125), (5, bI (t.1)), (6, bI (t.2.1))] [] t.2.2 (b_pI Q))
abbrev X_X0_holds_a_5_125_11 (l : Launch) (E : bE) (Q : (Int × bM) → Prop) (v0 : Nat) (v1 : Int) (v3 : Int) : (Int × bM) → Prop := (fun t : Int × bM => V l E xX0_holds (0, 0) 202 [(4, bR 125), (5, bI (t.1))] [] t.2 (b_pI Q))
noncomputable def F_X0_holds_a_5_125_b159 (v0 : Nat) (v1 : Int) (v3 : Int) (v5 : Int) (v6 : Int) (u1 : Int) (u2 : Int) (M : bM) : Option ((Int × Int × bM) ⊕ (Int × bM)) :=
  b_g (0 ≤ u1 ∧ u1 < 32) (b_let (b_up M 125 u1 u2) (fun M35 => b_g (b_i32 (v6 + 1)) (some (.inl (v5, (v6 + 1), M35)))))
theorem t_X0_holds_a_5_125_b159 {l : Launch} {E : bE} {Q : (Int × bM) → Prop} {v0 : Nat} {v1 : Int} {v3 : Int} {v5 : Int} {v6 : Int} {u1 : Int} {u2 : Int} {M : bM} (h : b_wp (F_X0_holds_a_5_125_b159 v0 v1 v3 v5 v6 u1 u2 M) (Sum.elim (A_X0_holds_a_5_125_11 l E Q v0 v1 v3) (X_X0_holds_a_5_125_11 l E Q v0 v1 v3))) : V l E xX0_holds (0, 0) 159 [(0, bR v0), (1, bI v1), (2, bR 5), (3, bI v3), (4, bR 125), (5, bI v5), (6, bI v6)] [bI u2, bI u1, bR 125] M (b_pI Q) := by
  unfold F_X0_holds_a_5_125_b159 at h
  obtain ⟨g34, h⟩ := b_wp_g h
  refine v_iastore kd_125 g34 (by decide) dX0_holds_159 ?_
  replace h := b_wp_l h
  obtain ⟨g36, h⟩ := b_wp_g h
  refine v_goto (tgt := 196) dX0_holds_160 (by decide) ?_
  refine v_iincN (ls' := [(6, bI _), (0, bR _), (1, bI _), (2, bR _), (3, bI _), (4, bR _), (5, bI _)]) 6 rfl (by decide) g36 dX0_holds_196 rfl ?_
  refine v_goto (tgt := 11) dX0_holds_199 (by decide) ?_
  refine v_sub (ls2 := [(0, bR _), (1, bI _), (2, bR _), (3, bI _), (4, bR _), (5, bI _), (6, bI _)]) [1, 2, 3, 4, 5, 6, 0] rfl ?_
  exact h
noncomputable def F_X0_holds_a_5_125_b151 (v0 : Nat) (v1 : Int) (v3 : Int) (v5 : Int) (v6 : Int) (u1 : Int) (u2 : Int) (u3 : Int) (M : bM) : Option ((Int × Int × bM) ⊕ (Int × bM)) :=
  if u2 = u3 then (F_X0_holds_a_5_125_b159 v0 v1 v3 v5 v6 u1 1 M) else (F_X0_holds_a_5_125_b159 v0 v1 v3 v5 v6 u1 0 M)
theorem t_X0_holds_a_5_125_b151 {l : Launch} {E : bE} {Q : (Int × bM) → Prop} {v0 : Nat} {v1 : Int} {v3 : Int} {v5 : Int} {v6 : Int} {u1 : Int} {u2 : Int} {u3 : Int} {M : bM} (h : b_wp (F_X0_holds_a_5_125_b151 v0 v1 v3 v5 v6 u1 u2 u3 M) (Sum.elim (A_X0_holds_a_5_125_11 l E Q v0 v1 v3) (X_X0_holds_a_5_125_11 l E Q v0 v1 v3))) : V l E xX0_holds (0, 0) 151 [(0, bR v0), (1, bI v1), (2, bR 5), (3, bI v3), (4, bR 125), (5, bI v5), (6, bI v6)] [bI u3, bI u2, bI u1, bR 125] M (b_pI Q) := by
  unfold F_X0_holds_a_5_125_b151 at h
  refine v_icmp_ne (tgt := 158) dX0_holds_151 (by decide) (fun c33 => ?_) (fun c33 => ?_)
  · replace h := b_wp_f c33 h
    refine v_iconst ⟨by decide, by decide⟩ dX0_holds_158 ?_
    exact t_X0_holds_a_5_125_b159 h
  · replace h := b_wp_t c33 h
    refine v_iconst ⟨by decide, by decide⟩ dX0_holds_154 ?_
    refine v_goto (tgt := 159) dX0_holds_155 (by decide) ?_
    exact t_X0_holds_a_5_125_b159 h
noncomputable def F_X0_holds_a_5_125_b129 (v0 : Nat) (v1 : Int) (v3 : Int) (v5 : Int) (v6 : Int) (v7 : Int) (u0 : Int) (M : bM) : Option ((Int × Int × bM) ⊕ (Int × bM)) :=
  b_g (b_i32 (v5 - 1)) (if v7 = 9 then (F_X0_holds_a_5_125_b151 v0 v1 v3 v5 v6 (v5 - 1) u0 1 M) else (F_X0_holds_a_5_125_b151 v0 v1 v3 v5 v6 (v5 - 1) u0 0 M))
theorem t_X0_holds_a_5_125_b129 {l : Launch} {E : bE} {Q : (Int × bM) → Prop} {v0 : Nat} {v1 : Int} {v3 : Int} {v5 : Int} {v6 : Int} {v7 : Int} {u0 : Int} {M : bM} (h : b_wp (F_X0_holds_a_5_125_b129 v0 v1 v3 v5 v6 v7 u0 M) (Sum.elim (A_X0_holds_a_5_125_11 l E Q v0 v1 v3) (X_X0_holds_a_5_125_11 l E Q v0 v1 v3))) : V l E xX0_holds (0, 0) 129 [(0, bR v0), (1, bI v1), (2, bR 5), (3, bI v3), (4, bR 125), (5, bI v5), (6, bI v6), (7, bI v7)] [bI u0] M (b_pI Q) := by
  unfold F_X0_holds_a_5_125_b129 at h
  obtain ⟨g31, h⟩ := b_wp_g h
  refine v_istore (i := 10) (ls' := [(10, bI _), (0, bR _), (1, bI _), (2, bR _), (3, bI _), (4, bR _), (5, bI _), (6, bI _), (7, bI _)]) (by decide) dX0_holds_129 rfl ?_
  refine v_aload (i := 4) 5 rfl dX0_holds_131 ?_
  refine v_iload (i := 5) 6 rfl dX0_holds_133 ?_
  refine v_iconst ⟨by decide, by decide⟩ dX0_holds_135 ?_
  refine v_isubN g31 dX0_holds_136 ?_
  refine v_iload (i := 10) 0 rfl dX0_holds_137 ?_
  refine v_iload (i := 7) 8 rfl dX0_holds_139 ?_
  refine v_bipush ⟨by decide, by decide⟩ (by decide) dX0_holds_141 ?_
  refine v_icmp_ne (tgt := 150) dX0_holds_143 (by decide) (fun c32 => ?_) (fun c32 => ?_)
  · replace h := b_wp_f c32 h
    refine v_iconst ⟨by decide, by decide⟩ dX0_holds_150 ?_
    refine v_sub (ls2 := [(0, bR _), (1, bI _), (2, bR _), (3, bI _), (4, bR _), (5, bI _), (6, bI _)]) [1, 2, 3, 4, 5, 6, 7] rfl ?_
    exact t_X0_holds_a_5_125_b151 h
  · replace h := b_wp_t c32 h
    refine v_iconst ⟨by decide, by decide⟩ dX0_holds_146 ?_
    refine v_goto (tgt := 151) dX0_holds_147 (by decide) ?_
    refine v_sub (ls2 := [(0, bR _), (1, bI _), (2, bR _), (3, bI _), (4, bR _), (5, bI _), (6, bI _)]) [1, 2, 3, 4, 5, 6, 7] rfl ?_
    exact t_X0_holds_a_5_125_b151 h
noncomputable def F_X0_holds_a_5_125_b95 (v0 : Nat) (v1 : Int) (v3 : Int) (v5 : Int) (v6 : Int) (u1 : Int) (u2 : Int) (M : bM) : Option ((Int × Int × bM) ⊕ (Int × bM)) :=
  b_g (0 ≤ u1 ∧ u1 < 32) (b_let (b_up M 125 u1 u2) (fun M42 => b_g ((b_i32 (v5 + 1)) ∧ (b_i32 (v6 + 1))) (some (.inl ((v5 + 1), (v6 + 1), M42)))))
theorem t_X0_holds_a_5_125_b95 {l : Launch} {E : bE} {Q : (Int × bM) → Prop} {v0 : Nat} {v1 : Int} {v3 : Int} {v5 : Int} {v6 : Int} {u1 : Int} {u2 : Int} {M : bM} (h : b_wp (F_X0_holds_a_5_125_b95 v0 v1 v3 v5 v6 u1 u2 M) (Sum.elim (A_X0_holds_a_5_125_11 l E Q v0 v1 v3) (X_X0_holds_a_5_125_11 l E Q v0 v1 v3))) : V l E xX0_holds (0, 0) 95 [(0, bR v0), (1, bI v1), (2, bR 5), (3, bI v3), (4, bR 125), (5, bI v5), (6, bI v6)] [bI u2, bI u1, bR 125] M (b_pI Q) := by
  unfold F_X0_holds_a_5_125_b95 at h
  obtain ⟨g41, h⟩ := b_wp_g h
  refine v_iastore kd_125 g41 (by decide) dX0_holds_95 ?_
  replace h := b_wp_l h
  obtain ⟨⟨g43, g44⟩, h⟩ := b_wp_g h
  refine v_iincN (ls' := [(5, bI _), (0, bR _), (1, bI _), (2, bR _), (3, bI _), (4, bR _), (6, bI _)]) 5 rfl (by decide) g43 dX0_holds_96 rfl ?_
  refine v_goto (tgt := 196) dX0_holds_99 (by decide) ?_
  refine v_iincN (ls' := [(6, bI _), (5, bI _), (0, bR _), (1, bI _), (2, bR _), (3, bI _), (4, bR _)]) 6 rfl (by decide) g44 dX0_holds_196 rfl ?_
  refine v_goto (tgt := 11) dX0_holds_199 (by decide) ?_
  refine v_sub (ls2 := [(0, bR _), (1, bI _), (2, bR _), (3, bI _), (4, bR _), (5, bI _), (6, bI _)]) [2, 3, 4, 5, 6, 1, 0] rfl ?_
  exact h
noncomputable def F_X0_holds_a_5_125_s11 (v0 : Nat) (v1 : Int) (v3 : Int) (v5 : Int) (v6 : Int) (M : bM) : Option ((Int × Int × bM) ⊕ (Int × bM)) :=
  b_g ((12 ≤ v0 ∧ v0 < 22) ∧ (b_i32 (v1 + 1)) ∧ (0 ≤ (v1 + 1) ∧ (v1 + 1) < 25)) (if (M (v0 + 40) (v1 + 1)) ≤ v6 then (some (.inr (v5, M))) else (if (M 1000 (((v0 + 50) : Nat) : Int)) ≤ v6 then (some (.inr (v5, M))) else (b_g ((0 ≤ v6 ∧ v6 < M 1000 (((v0 + 50) : Nat) : Int)) ∧ (b_i32 (j_and (M (v0 + 50) v6) 15))) (b_let ((j_and (M (v0 + 50) v6) 15)) (fun y11 => b_g (0 ≤ v6 ∧ v6 < M 1000 (((v0 + 50) : Nat) : Int)) (b_let ((j_ushr (M (v0 + 50) v6) 4)) (fun y13 => if 1 < y11 then (if y11 < 8 then (if v5 ≤ 1 then (b_g (b_i32 (v6 + 1)) (some (.inl (v5, (v6 + 1), M)))) else (b_g ((b_i32 (v5 + (-1))) ∧ (b_i32 ((v5 + (-1)) - 1)) ∧ (0 ≤ ((v5 + (-1)) - 1) ∧ ((v5 + (-1)) - 1) < 32) ∧ (0 ≤ (v5 + (-1)) ∧ (v5 + (-1)) < 32)) (b_bind (F_X0_ofTwo y11 (M 125 ((v5 + (-1)) - 1)) (M 125 (v5 + (-1))) M) (fun x22 => b_g (0 ≤ ((v5 + (-1)) - 1) ∧ ((v5 + (-1)) - 1) < 32) (b_let (b_up M 125 ((v5 + (-1)) - 1) x22) (fun M24 => b_g (b_i32 (v6 + 1)) (some (.inl ((v5 + (-1)), (v6 + 1), M24))))))))) else (if v5 ≤ 0 then (b_g (b_i32 (v6 + 1)) (some (.inl (v5, (v6 + 1), M)))) else (b_g ((b_i32 (v5 - 1)) ∧ (0 ≤ (v5 - 1) ∧ (v5 - 1) < 32)) (if (M 125 (v5 - 1)) ≤ 0 then (F_X0_holds_a_5_125_b129 v0 v1 v3 v5 v6 y11 0 M) else (F_X0_holds_a_5_125_b129 v0 v1 v3 v5 v6 y11 1 M))))) else (if 32 ≤ v5 then (b_g (b_i32 (v6 + 1)) (some (.inl (v5, (v6 + 1), M)))) else (if y11 = 0 then (b_g (b_i32 y13) (F_X0_holds_a_5_125_b95 v0 v1 v3 v5 v6 v5 y13 M)) else (b_bind (F_X7_mark v3 y13 M) (fun x40 => F_X0_holds_a_5_125_b95 v0 v1 v3 v5 v6 v5 x40 M)))))))))))
theorem t_X0_holds_a_5_125_s11 {l : Launch} {E : bE} {Q : (Int × bM) → Prop} {v0 : Nat} {v1 : Int} {v3 : Int} {v5 : Int} {v6 : Int} {M : bM} (h : b_wp (F_X0_holds_a_5_125_s11 v0 v1 v3 v5 v6 M) (Sum.elim (A_X0_holds_a_5_125_11 l E Q v0 v1 v3) (X_X0_holds_a_5_125_11 l E Q v0 v1 v3))) : V l E xX0_holds (0, 0) 11 [(0, bR v0), (1, bI v1), (2, bR 5), (3, bI v3), (4, bR 125), (5, bI v5), (6, bI v6)] [] M (b_pI Q) := by
  unfold F_X0_holds_a_5_125_s11 at h
  obtain ⟨⟨g4, g5, g6⟩, h⟩ := b_wp_g h
  refine v_iload (i := 6) 6 rfl dX0_holds_11 ?_
  refine v_aload_n (f := 0) 0 rfl dX0_holds_13 ?_
  refine v_getO (kf := 4) (kz := 4) rfl (kd_act0 g4) rfl ⟨by decide, by decide⟩ rfl wf_0_16 dX0_holds_14 ?_
  refine v_iload_n (f := 1) 1 rfl dX0_holds_17 ?_
  refine v_iconst ⟨by decide, by decide⟩ dX0_holds_18 ?_
  refine v_iaddN g5 dX0_holds_19 ?_
  refine v_iaload (kd_act40 g4) g6 (by decide) dX0_holds_20 ?_
  refine v_icmp_ge (tgt := 202) dX0_holds_21 (by decide) (fun c7 => ?_) (fun c7 => ?_)
  · replace h := b_wp_t c7 h
    refine v_sub (ls2 := [(4, bR _), (5, bI _)]) [4, 5] rfl ?_
    exact h
  · replace h := b_wp_f c7 h
    refine v_iload (i := 6) 6 rfl dX0_holds_24 ?_
    refine v_aload_n (f := 0) 0 rfl dX0_holds_26 ?_
    refine v_getO (kf := 5) (kz := 5) rfl (kd_act0 g4) rfl ⟨by decide, by decide⟩ rfl wf_0_19 dX0_holds_27 ?_
    refine v_alenG (kd_act50 g4) dX0_holds_30 ?_
    refine v_icmp_ge (tgt := 202) dX0_holds_31 (by decide) (fun c8 => ?_) (fun c8 => ?_)
    · replace h := b_wp_t c8 h
      refine v_sub (ls2 := [(4, bR _), (5, bI _)]) [4, 5] rfl ?_
      exact h
    · replace h := b_wp_f c8 h
      obtain ⟨⟨g9, g10⟩, h⟩ := b_wp_g h
      refine v_aload_n (f := 0) 0 rfl dX0_holds_34 ?_
      refine v_getO (kf := 5) (kz := 5) rfl (kd_act0 g4) rfl ⟨by decide, by decide⟩ rfl wf_0_19 dX0_holds_35 ?_
      refine v_iload (i := 6) 6 rfl dX0_holds_38 ?_
      refine v_laloadG (kd_act50 g4) g9 dX0_holds_40 ?_
      refine v_ldc2 (n := 15) ⟨by decide, by decide⟩ wl_0_51 dX0_holds_41 ?_
      refine v_land (v := j_and _ _) rfl dX0_holds_44 ?_
      refine v_l2iN g10 dX0_holds_45 ?_
      replace h := b_wp_l h
      obtain ⟨g12, h⟩ := b_wp_g h
      refine v_istore (i := 7) (ls' := [(7, bI _), (0, bR _), (1, bI _), (2, bR _), (3, bI _), (4, bR _), (5, bI _), (6, bI _)]) (by decide) dX0_holds_46 rfl ?_
      refine v_aload_n (f := 0) 1 rfl dX0_holds_48 ?_
      refine v_getO (kf := 5) (kz := 5) rfl (kd_act0 g4) rfl ⟨by decide, by decide⟩ rfl wf_0_19 dX0_holds_49 ?_
      refine v_iload (i := 6) 7 rfl dX0_holds_52 ?_
      refine v_laloadG (kd_act50 g4) g12 dX0_holds_54 ?_
      refine v_iconst ⟨by decide, by decide⟩ dX0_holds_55 ?_
      refine v_lushr (v := j_ushr _ _) rfl dX0_holds_56 ?_
      replace h := b_wp_l h
      refine v_lstore (i := 8) (ls' := [(8, bJ _), (7, bI _), (0, bR _), (1, bI _), (2, bR _), (3, bI _), (4, bR _), (5, bI _), (6, bI _)]) (by decide) dX0_holds_57 rfl ?_
      refine v_iload (i := 7) 1 rfl dX0_holds_59 ?_
      refine v_iconst ⟨by decide, by decide⟩ dX0_holds_61 ?_
      refine v_icmp_gt (tgt := 102) dX0_holds_62 (by decide) (fun c14 => ?_) (fun c14 => ?_)
      · replace h := b_wp_t c14 h
        refine v_iload (i := 7) 1 rfl dX0_holds_102 ?_
        refine v_bipush ⟨by decide, by decide⟩ (by decide) dX0_holds_104 ?_
        refine v_icmp_lt (tgt := 163) dX0_holds_106 (by decide) (fun c15 => ?_) (fun c15 => ?_)
        · replace h := b_wp_t c15 h
          refine v_iload (i := 5) 7 rfl dX0_holds_163 ?_
          refine v_iconst ⟨by decide, by decide⟩ dX0_holds_165 ?_
          refine v_icmp_le (tgt := 196) dX0_holds_166 (by decide) (fun c16 => ?_) (fun c16 => ?_)
          · replace h := b_wp_t c16 h
            obtain ⟨g17, h⟩ := b_wp_g h
            refine v_iincN (ls' := [(6, bI _), (8, bJ _), (7, bI _), (0, bR _), (1, bI _), (2, bR _), (3, bI _), (4, bR _), (5, bI _)]) 8 rfl (by decide) g17 dX0_holds_196 rfl ?_
            refine v_goto (tgt := 11) dX0_holds_199 (by decide) ?_
            refine v_sub (ls2 := [(0, bR _), (1, bI _), (2, bR _), (3, bI _), (4, bR _), (5, bI _), (6, bI _)]) [3, 4, 5, 6, 7, 8, 0] rfl ?_
            exact h
          · replace h := b_wp_f c16 h
            obtain ⟨⟨g18, g19, g20, g21⟩, h⟩ := b_wp_g h
            refine v_iincN (ls' := [(5, bI _), (8, bJ _), (7, bI _), (0, bR _), (1, bI _), (2, bR _), (3, bI _), (4, bR _), (6, bI _)]) 7 rfl (by decide) g18 dX0_holds_169 rfl ?_
            refine v_aload (i := 4) 7 rfl dX0_holds_172 ?_
            refine v_iload (i := 5) 0 rfl dX0_holds_174 ?_
            refine v_iconst ⟨by decide, by decide⟩ dX0_holds_176 ?_
            refine v_isubN g19 dX0_holds_177 ?_
            refine v_iload (i := 7) 2 rfl dX0_holds_178 ?_
            refine v_aload (i := 4) 7 rfl dX0_holds_180 ?_
            refine v_iload (i := 5) 0 rfl dX0_holds_182 ?_
            refine v_iconst ⟨by decide, by decide⟩ dX0_holds_184 ?_
            refine v_isubN g19 dX0_holds_185 ?_
            refine v_iaload kd_125 g20 (by decide) dX0_holds_186 ?_
            refine v_aload (i := 4) 7 rfl dX0_holds_187 ?_
            refine v_iload (i := 5) 0 rfl dX0_holds_189 ?_
            refine v_iaload kd_125 g21 (by decide) dX0_holds_191 ?_
            refine v_cSIp (nA := 3) (As := [bI _, bI _, bI _]) (ix := 57) (cf_X0_ofTwo (b_wp_b h)) rfl wc_X0_ofTwo wm_0_57 wi_X0_ofTwo wn_0 ⟨by decide, by decide, by decide⟩ rfl ⟨by decide, by decide⟩ ⟨by decide, by decide⟩ (Nat.le_of_ble_eq_true rfl) dX0_holds_192 (fun x22 h => ?_)
            obtain ⟨g23, h⟩ := b_wp_g h
            refine v_iastore kd_125 g23 (by decide) dX0_holds_195 ?_
            replace h := b_wp_l h
            obtain ⟨g25, h⟩ := b_wp_g h
            refine v_iincN (ls' := [(6, bI _), (5, bI _), (8, bJ _), (7, bI _), (0, bR _), (1, bI _), (2, bR _), (3, bI _), (4, bR _)]) 8 rfl (by decide) g25 dX0_holds_196 rfl ?_
            refine v_goto (tgt := 11) dX0_holds_199 (by decide) ?_
            refine v_sub (ls2 := [(0, bR _), (1, bI _), (2, bR _), (3, bI _), (4, bR _), (5, bI _), (6, bI _)]) [4, 5, 6, 7, 8, 1, 0] rfl ?_
            exact h
        · replace h := b_wp_f c15 h
          refine v_iload (i := 5) 7 rfl dX0_holds_109 ?_
          refine v_if_le (tgt := 196) dX0_holds_111 (by decide) (fun c26 => ?_) (fun c26 => ?_)
          · replace h := b_wp_t c26 h
            obtain ⟨g27, h⟩ := b_wp_g h
            refine v_iincN (ls' := [(6, bI _), (8, bJ _), (7, bI _), (0, bR _), (1, bI _), (2, bR _), (3, bI _), (4, bR _), (5, bI _)]) 8 rfl (by decide) g27 dX0_holds_196 rfl ?_
            refine v_goto (tgt := 11) dX0_holds_199 (by decide) ?_
            refine v_sub (ls2 := [(0, bR _), (1, bI _), (2, bR _), (3, bI _), (4, bR _), (5, bI _), (6, bI _)]) [3, 4, 5, 6, 7, 8, 0] rfl ?_
            exact h
          · replace h := b_wp_f c26 h
            obtain ⟨⟨g28, g29⟩, h⟩ := b_wp_g h
            refine v_aload (i := 4) 6 rfl dX0_holds_114 ?_
            refine v_iload (i := 5) 7 rfl dX0_holds_116 ?_
            refine v_iconst ⟨by decide, by decide⟩ dX0_holds_118 ?_
            refine v_isubN g28 dX0_holds_119 ?_
            refine v_iaload kd_125 g29 (by decide) dX0_holds_120 ?_
            refine v_if_le (tgt := 128) dX0_holds_121 (by decide) (fun c30 => ?_) (fun c30 => ?_)
            · replace h := b_wp_t c30 h
              refine v_iconst ⟨by decide, by decide⟩ dX0_holds_128 ?_
              refine v_sub (ls2 := [(0, bR _), (1, bI _), (2, bR _), (3, bI _), (4, bR _), (5, bI _), (6, bI _), (7, bI _)]) [2, 3, 4, 5, 6, 7, 8, 1] rfl ?_
              exact t_X0_holds_a_5_125_b129 h
            · replace h := b_wp_f c30 h
              refine v_iconst ⟨by decide, by decide⟩ dX0_holds_124 ?_
              refine v_goto (tgt := 129) dX0_holds_125 (by decide) ?_
              refine v_sub (ls2 := [(0, bR _), (1, bI _), (2, bR _), (3, bI _), (4, bR _), (5, bI _), (6, bI _), (7, bI _)]) [2, 3, 4, 5, 6, 7, 8, 1] rfl ?_
              exact t_X0_holds_a_5_125_b129 h
      · replace h := b_wp_f c14 h
        refine v_iload (i := 5) 7 rfl dX0_holds_65 ?_
        refine v_aload (i := 4) 6 rfl dX0_holds_67 ?_
        refine v_alen1 kd_125 (by decide) dX0_holds_69 ?_
        refine v_icmp_ge (tgt := 196) dX0_holds_70 (by decide) (fun c37 => ?_) (fun c37 => ?_)
        · replace h := b_wp_t c37 h
          obtain ⟨g38, h⟩ := b_wp_g h
          refine v_iincN (ls' := [(6, bI _), (8, bJ _), (7, bI _), (0, bR _), (1, bI _), (2, bR _), (3, bI _), (4, bR _), (5, bI _)]) 8 rfl (by decide) g38 dX0_holds_196 rfl ?_
          refine v_goto (tgt := 11) dX0_holds_199 (by decide) ?_
          refine v_sub (ls2 := [(0, bR _), (1, bI _), (2, bR _), (3, bI _), (4, bR _), (5, bI _), (6, bI _)]) [3, 4, 5, 6, 7, 8, 0] rfl ?_
          exact h
        · replace h := b_wp_f c37 h
          refine v_aload (i := 4) 6 rfl dX0_holds_73 ?_
          refine v_iload (i := 5) 7 rfl dX0_holds_75 ?_
          refine v_iload (i := 7) 1 rfl dX0_holds_77 ?_
          refine v_if_ne (tgt := 88) dX0_holds_79 (by decide) (fun c39 => ?_) (fun c39 => ?_)
          · replace h := b_wp_f c39 h
            refine v_aload_n (f := 2) 4 rfl dX0_holds_88 ?_
            refine v_iload_n (f := 3) 5 rfl dX0_holds_89 ?_
            refine v_lload (i := 8) 0 rfl dX0_holds_90 ?_
            refine v_cVIp (nA := 2) (As := [bI _, bJ _]) (ix := 53) (cf_X7_mark (b_wp_b h)) rfl kd_5 rfl rfl wc_X7_mark wm_0_53 wi_X7_mark ws_X7_mark wn_7 ⟨by decide, by decide, by decide⟩ rfl ⟨by decide, by decide⟩ ⟨by decide, by decide⟩ (Nat.le_of_ble_eq_true rfl) dX0_holds_92 (fun x40 h => ?_)
            refine v_sub (ls2 := [(0, bR _), (1, bI _), (2, bR _), (3, bI _), (4, bR _), (5, bI _), (6, bI _)]) [2, 3, 4, 5, 6, 7, 8] rfl ?_
            exact t_X0_holds_a_5_125_b95 h
          · replace h := b_wp_t c39 h
            obtain ⟨g45, h⟩ := b_wp_g h
            refine v_lload (i := 8) 0 rfl dX0_holds_82 ?_
            refine v_l2iN g45 dX0_holds_84 ?_
            refine v_goto (tgt := 95) dX0_holds_85 (by decide) ?_
            refine v_sub (ls2 := [(0, bR _), (1, bI _), (2, bR _), (3, bI _), (4, bR _), (5, bI _), (6, bI _)]) [2, 3, 4, 5, 6, 7, 8] rfl ?_
            exact t_X0_holds_a_5_125_b95 h
theorem l_X0_holds_a_5_125_11 {l : Launch} {E : bE} {Q : (Int × bM) → Prop} {v0 : Nat} {v1 : Int} {v3 : Int} {s : Int × Int × bM} (h : b_wp (b_loop (fun t => F_X0_holds_a_5_125_s11 v0 v1 v3 t.1 t.2.1 t.2.2) s) (X_X0_holds_a_5_125_11 l E Q v0 v1 v3)) : A_X0_holds_a_5_125_11 l E Q v0 v1 v3 s := b_loop_wp (fun t h => t_X0_holds_a_5_125_s11 h) s h
noncomputable def F_X0_holds_a_5_125_b202 (v5 : Int) (M : bM) : Option (Int × bM) :=
  if v5 ≤ 0 then (some (0, M)) else (if (M 125 0) ≤ 0 then (some (0, M)) else (some (1, M)))
theorem t_X0_holds_a_5_125_b202 {l : Launch} {E : bE} {Q : (Int × bM) → Prop} {v5 : Int} {M : bM} (h : b_wp (F_X0_holds_a_5_125_b202 v5 M) (Q)) : V l E xX0_holds (0, 0) 202 [(4, bR 125), (5, bI v5)] [] M (b_pI Q) := by
  unfold F_X0_holds_a_5_125_b202 at h
  refine v_iload (i := 5) 1 rfl dX0_holds_202 ?_
  refine v_if_le (tgt := 218) dX0_holds_204 (by decide) (fun c46 => ?_) (fun c46 => ?_)
  · replace h := b_wp_t c46 h
    refine v_iconst ⟨by decide, by decide⟩ dX0_holds_218 ?_
    refine v_zreturn rfl (Or.inl rfl) dX0_holds_219 ⟨by decide, by decide⟩ ?_
    exact ⟨_, rfl, h⟩
  · replace h := b_wp_f c46 h
    refine v_aload (i := 4) 0 rfl dX0_holds_207 ?_
    refine v_iconst ⟨by decide, by decide⟩ dX0_holds_209 ?_
    refine v_iaload kd_125 ⟨by decide, by decide⟩ (by decide) dX0_holds_210 ?_
    refine v_if_le (tgt := 218) dX0_holds_211 (by decide) (fun c47 => ?_) (fun c47 => ?_)
    · replace h := b_wp_t c47 h
      refine v_iconst ⟨by decide, by decide⟩ dX0_holds_218 ?_
      refine v_zreturn rfl (Or.inl rfl) dX0_holds_219 ⟨by decide, by decide⟩ ?_
      exact ⟨_, rfl, h⟩
    · replace h := b_wp_f c47 h
      refine v_iconst ⟨by decide, by decide⟩ dX0_holds_214 ?_
      refine v_goto (tgt := 219) dX0_holds_215 (by decide) ?_
      refine v_zreturn rfl (Or.inr rfl) dX0_holds_219 ⟨by decide, by decide⟩ ?_
      exact ⟨_, rfl, h⟩
noncomputable def F_X0_holds_a_5_125 (v0 : Nat) (v1 : Int) (v3 : Int) (M : bM) : Option (Int × bM) :=
  b_g ((12 ≤ v0 ∧ v0 < 22) ∧ (0 ≤ v1 ∧ v1 < 25)) (b_let ((M (v0 + 40) v1)) (fun y3 => b_bind (b_loop (fun t => F_X0_holds_a_5_125_s11 v0 v1 v3 t.1 t.2.1 t.2.2) (0, y3, M)) (fun t => F_X0_holds_a_5_125_b202 (t.1) (t.2))))
theorem t_X0_holds_a_5_125 {l : Launch} {E : bE} {Q : (Int × bM) → Prop} {v0 : Nat} {v1 : Int} {v3 : Int} {M : bM} (h : b_wp (F_X0_holds_a_5_125 v0 v1 v3 M) (Q)) : V l E xX0_holds (0, 0) 0 [(0, bR v0), (1, bI v1), (2, bR 5), (3, bI v3), (4, bR 125)] [] M (b_pI Q) := by
  unfold F_X0_holds_a_5_125 at h
  obtain ⟨⟨g1, g2⟩, h⟩ := b_wp_g h
  refine v_iconst ⟨by decide, by decide⟩ dX0_holds_0 ?_
  refine v_istore (i := 5) (ls' := [(5, bI _), (0, bR _), (1, bI _), (2, bR _), (3, bI _), (4, bR _)]) (by decide) dX0_holds_1 rfl ?_
  refine v_aload_n (f := 0) 1 rfl dX0_holds_3 ?_
  refine v_getO (kf := 4) (kz := 4) rfl (kd_act0 g1) rfl ⟨by decide, by decide⟩ rfl wf_0_16 dX0_holds_4 ?_
  refine v_iload_n (f := 1) 2 rfl dX0_holds_7 ?_
  refine v_iaload (kd_act40 g1) g2 (by decide) dX0_holds_8 ?_
  replace h := b_wp_l h
  refine v_istore (i := 6) (ls' := [(6, bI _), (5, bI _), (0, bR _), (1, bI _), (2, bR _), (3, bI _), (4, bR _)]) (by decide) dX0_holds_9 rfl ?_
  refine v_sub (ls2 := [(0, bR _), (1, bI _), (2, bR _), (3, bI _), (4, bR _), (5, bI _), (6, bI _)]) [2, 3, 4, 5, 6, 1, 0] rfl ?_
  refine l_X0_holds_a_5_125_11 (b_wp_m (fun t h => ?_) (b_wp_b h))
  show V l E xX0_holds (0, 0) 202 [(4, bR 125), (5, bI _)] [] _ (b_pI Q)
  exact t_X0_holds_a_5_125_b202 h
theorem cf_X0_holds_a_5_125 {l : Launch} {E : bE} {M : bM} {v0 : Nat} {v1 : Int} {v3 : Int} {Q : (Int × bM) → Prop} (h : b_wp (F_X0_holds_a_5_125 v0 v1 v3 M) Q) : b_C l E xX0_holds yX0_holds [bR v0, bI v1, bR 5, bI v3, bR 125] M (b_pI Q) := b_met (by decide) ⟨rfl, rfl⟩ (Nat.le_of_ble_eq_true rfl) (fun _ _ => t_X0_holds_a_5_125 h)
