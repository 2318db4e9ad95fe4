abbrev xX12_claim : bX := ("BurntHallModel", prog_14_method_114_code, 3, (Option.some Jvm.ClassFile.FieldType.int), b_rm 3 0 0, 0, "claim")
abbrev yX12_claim : MethodName := ⟨"BurntHallModel", "claim", "(II)I"⟩
theorem dX12_claim_0 : decode prog_14_method_114_code 0 = .ok (.aload_n 0, 1) := by decide +kernel
theorem dX12_claim_1 : decode prog_14_method_114_code 1 = .ok (.iload_n 1, 1) := by decide +kernel
theorem dX12_claim_2 : decode prog_14_method_114_code 2 = .ok (.invokevirtual 356, 3) := by decide +kernel
theorem dX12_claim_5 : decode prog_14_method_114_code 5 = .ok (.ifCond .eq 11, 3) := by decide +kernel
theorem dX12_claim_8 : decode prog_14_method_114_code 8 = .ok (.aload_n 0, 1) := by decide +kernel
theorem dX12_claim_9 : decode prog_14_method_114_code 9 = .ok (.iload_n 2, 1) := by decide +kernel
theorem dX12_claim_10 : decode prog_14_method_114_code 10 = .ok (.invokevirtual 385, 3) := by decide +kernel
theorem dX12_claim_13 : decode prog_14_method_114_code 13 = .ok (.ifCond .ne 6, 3) := by decide +kernel
theorem dX12_claim_16 : decode prog_14_method_114_code 16 = .ok (.bipush (-2), 2) := by decide +kernel
theorem dX12_claim_18 : decode prog_14_method_114_code 18 = .ok (.ireturn, 1) := by decide +kernel
theorem dX12_claim_19 : decode prog_14_method_114_code 19 = .ok (.aload_n 0, 1) := by decide +kernel
theorem dX12_claim_20 : decode prog_14_method_114_code 20 = .ok (.iload_n 2, 1) := by decide +kernel
theorem dX12_claim_21 : decode prog_14_method_114_code 21 = .ok (.aload_n 0, 1) := by decide +kernel
theorem dX12_claim_22 : decode prog_14_method_114_code 22 = .ok (.getfield 344, 3) := by decide +kernel
theorem dX12_claim_25 : decode prog_14_method_114_code 25 = .ok (.invokevirtual 632, 3) := by decide +kernel
theorem dX12_claim_28 : decode prog_14_method_114_code 28 = .ok (.ifCond .ne 6, 3) := by decide +kernel
theorem dX12_claim_31 : decode prog_14_method_114_code 31 = .ok (.bipush (-4), 2) := by decide +kernel
theorem dX12_claim_33 : decode prog_14_method_114_code 33 = .ok (.ireturn, 1) := by decide +kernel
theorem dX12_claim_34 : decode prog_14_method_114_code 34 = .ok (.aload_n 0, 1) := by decide +kernel
theorem dX12_claim_35 : decode prog_14_method_114_code 35 = .ok (.getfield 635, 3) := by decide +kernel
theorem dX12_claim_38 : decode prog_14_method_114_code 38 = .ok (.bipush 30, 2) := by decide +kernel
theorem dX12_claim_40 : decode prog_14_method_114_code 40 = .ok (.if_icmp .ne 6, 3) := by decide +kernel
theorem dX12_claim_43 : decode prog_14_method_114_code 43 = .ok (.bipush (-3), 2) := by decide +kernel
theorem dX12_claim_45 : decode prog_14_method_114_code 45 = .ok (.ireturn, 1) := by decide +kernel
theorem dX12_claim_46 : decode prog_14_method_114_code 46 = .ok (.aload_n 0, 1) := by decide +kernel
theorem dX12_claim_47 : decode prog_14_method_114_code 47 = .ok (.getfield 227, 3) := by decide +kernel
theorem dX12_claim_50 : decode prog_14_method_114_code 50 = .ok (.aload_n 0, 1) := by decide +kernel
theorem dX12_claim_51 : decode prog_14_method_114_code 51 = .ok (.getfield 635, 3) := by decide +kernel
theorem dX12_claim_54 : decode prog_14_method_114_code 54 = .ok (.iload_n 1, 1) := by decide +kernel
theorem dX12_claim_55 : decode prog_14_method_114_code 55 = .ok (.iastore, 1) := by decide +kernel
theorem dX12_claim_56 : decode prog_14_method_114_code 56 = .ok (.aload_n 0, 1) := by decide +kernel
theorem dX12_claim_57 : decode prog_14_method_114_code 57 = .ok (.getfield 230, 3) := by decide +kernel
theorem dX12_claim_60 : decode prog_14_method_114_code 60 = .ok (.aload_n 0, 1) := by decide +kernel
theorem dX12_claim_61 : decode prog_14_method_114_code 61 = .ok (.getfield 635, 3) := by decide +kernel
theorem dX12_claim_64 : decode prog_14_method_114_code 64 = .ok (.iload_n 2, 1) := by decide +kernel
theorem dX12_claim_65 : decode prog_14_method_114_code 65 = .ok (.iastore, 1) := by decide +kernel
theorem dX12_claim_66 : decode prog_14_method_114_code 66 = .ok (.aload_n 0, 1) := by decide +kernel
theorem dX12_claim_67 : decode prog_14_method_114_code 67 = .ok (.getfield 233, 3) := by decide +kernel
theorem dX12_claim_70 : decode prog_14_method_114_code 70 = .ok (.aload_n 0, 1) := by decide +kernel
theorem dX12_claim_71 : decode prog_14_method_114_code 71 = .ok (.getfield 635, 3) := by decide +kernel
theorem dX12_claim_74 : decode prog_14_method_114_code 74 = .ok (.aload_n 0, 1) := by decide +kernel
theorem dX12_claim_75 : decode prog_14_method_114_code 75 = .ok (.getfield 344, 3) := by decide +kernel
theorem dX12_claim_78 : decode prog_14_method_114_code 78 = .ok (.iastore, 1) := by decide +kernel
theorem dX12_claim_79 : decode prog_14_method_114_code 79 = .ok (.aload_n 0, 1) := by decide +kernel
theorem dX12_claim_80 : decode prog_14_method_114_code 80 = .ok (.dup, 1) := by decide +kernel
theorem dX12_claim_81 : decode prog_14_method_114_code 81 = .ok (.getfield 635, 3) := by decide +kernel
theorem dX12_claim_84 : decode prog_14_method_114_code 84 = .ok (.iconst 1, 1) := by decide +kernel
theorem dX12_claim_85 : decode prog_14_method_114_code 85 = .ok (.iadd, 1) := by decide +kernel
theorem dX12_claim_86 : decode prog_14_method_114_code 86 = .ok (.putfield 635, 3) := by decide +kernel
theorem dX12_claim_89 : decode prog_14_method_114_code 89 = .ok (.aload_n 0, 1) := by decide +kernel
theorem dX12_claim_90 : decode prog_14_method_114_code 90 = .ok (.getfield 635, 3) := by decide +kernel
theorem dX12_claim_93 : decode prog_14_method_114_code 93 = .ok (.iconst 1, 1) := by decide +kernel
theorem dX12_claim_94 : decode prog_14_method_114_code 94 = .ok (.isub, 1) := by decide +kernel
theorem dX12_claim_95 : decode prog_14_method_114_code 95 = .ok (.ireturn, 1) := by decide +kernel
noncomputable def F_X12_claim (v1 : Int) (v2 : Int) (M : bM) : Option (Int × bM) :=
  b_bind (F_X12_isPerson v1 M) (fun x1 => if x1 = 0 then (some ((-2), M)) else (b_bind (F_X12_isLot v2 M) (fun x3 => if x3 = 0 then (some ((-2), M)) else (b_bind (F_X12_isThere v2 (M 11 11) M) (fun x5 => if x5 = 0 then (some ((-4), M)) else (if (M 11 106) = 30 then (some ((-3), M)) else (b_g (0 ≤ (M 11 106) ∧ (M 11 106) < 30) (b_let (b_up M 231 (M 11 106) v1) (fun M9 => b_g (0 ≤ (M9 11 106) ∧ (M9 11 106) < 30) (b_let (b_up M9 232 (M9 11 106) v2) (fun M11 => b_g (0 ≤ (M11 11 106) ∧ (M11 11 106) < 30) (b_let (b_up M11 233 (M11 11 106) (M11 11 11)) (fun M13 => b_g (b_i32 ((M13 11 106) + 1)) (b_let (b_up M13 11 106 ((M13 11 106) + 1)) (fun M15 => b_g (b_i32 ((M15 11 106) - 1)) (some (((M15 11 106) - 1), M15)))))))))))))))))
theorem t_X12_claim {l : Launch} {E : bE} {Q : (Int × bM) → Prop} {v1 : Int} {v2 : Int} {M : bM} (h : b_wp (F_X12_claim v1 v2 M) (Q)) : V l E xX12_claim (0, 0) 0 [(0, bR 11), (1, bI v1), (2, bI v2)] [] M (b_pI Q) := by
  unfold F_X12_claim at h
  refine v_aload_n (f := 0) 0 rfl dX12_claim_0 ?_
  refine v_iload_n (f := 1) 1 rfl dX12_claim_1 ?_
  refine v_cVIp (nA := 1) (As := [bI _]) (ix := 356) (cf_X12_isPerson (b_wp_b h)) rfl kd_11 rfl rfl wc_X12_isPerson wm_12_356 wi_X12_isPerson ws_X12_isPerson wn_12 ⟨by decide, by decide, by decide⟩ rfl ⟨by decide, by decide⟩ ⟨by decide, by decide⟩ (Nat.le_of_ble_eq_true rfl) dX12_claim_2 (fun x1 h => ?_)
  refine v_if_eq (tgt := 16) dX12_claim_5 (by decide) (fun c2 => ?_) (fun c2 => ?_)
  · replace h := b_wp_t c2 h
    refine v_bipush ⟨by decide, by decide⟩ (by decide) dX12_claim_16 ?_
    refine v_ireturn rfl dX12_claim_18 ⟨by decide, by decide⟩ ?_
    exact ⟨_, rfl, h⟩
  · replace h := b_wp_f c2 h
    refine v_aload_n (f := 0) 0 rfl dX12_claim_8 ?_
    refine v_iload_n (f := 2) 2 rfl dX12_claim_9 ?_
    refine v_cVIp (nA := 1) (As := [bI _]) (ix := 385) (cf_X12_isLot (b_wp_b h)) rfl kd_11 rfl rfl wc_X12_isLot wm_12_385 wi_X12_isLot ws_X12_isLot wn_12 ⟨by decide, by decide, by decide⟩ rfl ⟨by decide, by decide⟩ ⟨by decide, by decide⟩ (Nat.le_of_ble_eq_true rfl) dX12_claim_10 (fun x3 h => ?_)
    refine v_if_ne (tgt := 19) dX12_claim_13 (by decide) (fun c4 => ?_) (fun c4 => ?_)
    · replace h := b_wp_f c4 h
      refine v_aload_n (f := 0) 0 rfl dX12_claim_19 ?_
      refine v_iload_n (f := 2) 2 rfl dX12_claim_20 ?_
      refine v_aload_n (f := 0) 0 rfl dX12_claim_21 ?_
      refine v_getI (kf := 11) (kz := 11) rfl kd_11 rfl ⟨by decide, by decide⟩ rfl wf_12_344 dX12_claim_22 ?_
      refine v_cVIp (nA := 2) (As := [bI _, bI _]) (ix := 632) (cf_X12_isThere (b_wp_b h)) rfl kd_11 rfl rfl wc_X12_isThere wm_12_632 wi_X12_isThere ws_X12_isThere wn_12 ⟨by decide, by decide, by decide⟩ rfl ⟨by decide, by decide⟩ ⟨by decide, by decide⟩ (Nat.le_of_ble_eq_true rfl) dX12_claim_25 (fun x5 h => ?_)
      refine v_if_ne (tgt := 34) dX12_claim_28 (by decide) (fun c6 => ?_) (fun c6 => ?_)
      · replace h := b_wp_f c6 h
        refine v_aload_n (f := 0) 0 rfl dX12_claim_34 ?_
        refine v_getI (kf := 106) (kz := 106) rfl kd_11 rfl ⟨by decide, by decide⟩ rfl wf_12_635 dX12_claim_35 ?_
        refine v_bipush ⟨by decide, by decide⟩ (by decide) dX12_claim_38 ?_
        refine v_icmp_ne (tgt := 46) dX12_claim_40 (by decide) (fun c7 => ?_) (fun c7 => ?_)
        · replace h := b_wp_f c7 h
          obtain ⟨g8, h⟩ := b_wp_g h
          refine v_aload_n (f := 0) 0 rfl dX12_claim_46 ?_
          refine v_getR (kf := 108) (kz := 108) rfl kd_11 rfl ⟨by decide, by decide⟩ rfl wf_12_227 dX12_claim_47 ?_
          refine v_aload_n (f := 0) 0 rfl dX12_claim_50 ?_
          refine v_getI (kf := 106) (kz := 106) rfl kd_11 rfl ⟨by decide, by decide⟩ rfl wf_12_635 dX12_claim_51 ?_
          refine v_iload_n (f := 1) 1 rfl dX12_claim_54 ?_
          refine v_iastore kd_231 g8 (by decide) dX12_claim_55 ?_
          replace h := b_wp_l h
          obtain ⟨g10, h⟩ := b_wp_g h
          refine v_aload_n (f := 0) 0 rfl dX12_claim_56 ?_
          refine v_getR (kf := 109) (kz := 109) rfl kd_11 rfl ⟨by decide, by decide⟩ rfl wf_12_230 dX12_claim_57 ?_
          refine v_aload_n (f := 0) 0 rfl dX12_claim_60 ?_
          refine v_getI (kf := 106) (kz := 106) rfl kd_11 rfl ⟨by decide, by decide⟩ rfl wf_12_635 dX12_claim_61 ?_
          refine v_iload_n (f := 2) 2 rfl dX12_claim_64 ?_
          refine v_iastore kd_232 g10 (by decide) dX12_claim_65 ?_
          replace h := b_wp_l h
          obtain ⟨g12, h⟩ := b_wp_g h
          refine v_aload_n (f := 0) 0 rfl dX12_claim_66 ?_
          refine v_getR (kf := 110) (kz := 110) rfl kd_11 rfl ⟨by decide, by decide⟩ rfl wf_12_233 dX12_claim_67 ?_
          refine v_aload_n (f := 0) 0 rfl dX12_claim_70 ?_
          refine v_getI (kf := 106) (kz := 106) rfl kd_11 rfl ⟨by decide, by decide⟩ rfl wf_12_635 dX12_claim_71 ?_
          refine v_aload_n (f := 0) 0 rfl dX12_claim_74 ?_
          refine v_getI (kf := 11) (kz := 11) rfl kd_11 rfl ⟨by decide, by decide⟩ rfl wf_12_344 dX12_claim_75 ?_
          refine v_iastore kd_233 g12 (by decide) dX12_claim_78 ?_
          replace h := b_wp_l h
          obtain ⟨g14, h⟩ := b_wp_g h
          refine v_aload_n (f := 0) 0 rfl dX12_claim_79 ?_
          refine v_dup rfl dX12_claim_80 ?_
          refine v_getI (kf := 106) (kz := 106) rfl kd_11 rfl ⟨by decide, by decide⟩ rfl wf_12_635 dX12_claim_81 ?_
          refine v_iconst ⟨by decide, by decide⟩ dX12_claim_84 ?_
          refine v_iaddN g14 dX12_claim_85 ?_
          refine v_putI (kf := 106) (kz := 106) rfl kd_11 rfl ⟨by decide, by decide⟩ rfl wf_12_635 rfl rfl dX12_claim_86 ?_
          replace h := b_wp_l h
          obtain ⟨g16, h⟩ := b_wp_g h
          refine v_aload_n (f := 0) 0 rfl dX12_claim_89 ?_
          refine v_getI (kf := 106) (kz := 106) rfl kd_11 rfl ⟨by decide, by decide⟩ rfl wf_12_635 dX12_claim_90 ?_
          refine v_iconst ⟨by decide, by decide⟩ dX12_claim_93 ?_
          refine v_isubN g16 dX12_claim_94 ?_
          refine v_ireturn rfl dX12_claim_95 ⟨by decide, by decide⟩ ?_
          exact ⟨_, rfl, h⟩
        · replace h := b_wp_t c7 h
          refine v_bipush ⟨by decide, by decide⟩ (by decide) dX12_claim_43 ?_
          refine v_ireturn rfl dX12_claim_45 ⟨by decide, by decide⟩ ?_
          exact ⟨_, rfl, h⟩
      · replace h := b_wp_t c6 h
        refine v_bipush ⟨by decide, by decide⟩ (by decide) dX12_claim_31 ?_
        refine v_ireturn rfl dX12_claim_33 ⟨by decide, by decide⟩ ?_
        exact ⟨_, rfl, h⟩
    · replace h := b_wp_t c4 h
      refine v_bipush ⟨by decide, by decide⟩ (by decide) dX12_claim_16 ?_
      refine v_ireturn rfl dX12_claim_18 ⟨by decide, by decide⟩ ?_
      exact ⟨_, rfl, h⟩
theorem cf_X12_claim {l : Launch} {E : bE} {M : bM} {v1 : Int} {v2 : Int} {Q : (Int × bM) → Prop} (h : b_wp (F_X12_claim v1 v2 M) Q) : b_C l E xX12_claim yX12_claim [bR 11, bI v1, bI v2] M (b_pI Q) := b_met (by decide) ⟨rfl, rfl⟩ (Nat.le_of_ble_eq_true rfl) (fun _ _ => t_X12_claim h)
abbrev xX12_worthOf : bX := ("BurntHallModel", prog_14_method_115_code, 3, (Option.some Jvm.ClassFile.FieldType.int), b_rm 6 0 0, 0, "worthOf")
abbrev yX12_worthOf : MethodName := ⟨"BurntHallModel", "worthOf", "(I)I"⟩
theorem dX12_worthOf_0 : decode prog_14_method_115_code 0 = .ok (.aload_n 0, 1) := by decide +kernel
theorem dX12_worthOf_1 : decode prog_14_method_115_code 1 = .ok (.aload_n 0, 1) := by decide +kernel
theorem dX12_worthOf_2 : decode prog_14_method_115_code 2 = .ok (.getfield 230, 3) := by decide +kernel
theorem dX12_worthOf_5 : decode prog_14_method_115_code 5 = .ok (.iload_n 1, 1) := by decide +kernel
theorem dX12_worthOf_6 : decode prog_14_method_115_code 6 = .ok (.iaload, 1) := by decide +kernel
theorem dX12_worthOf_7 : decode prog_14_method_115_code 7 = .ok (.aload_n 0, 1) := by decide +kernel
theorem dX12_worthOf_8 : decode prog_14_method_115_code 8 = .ok (.getfield 227, 3) := by decide +kernel
theorem dX12_worthOf_11 : decode prog_14_method_115_code 11 = .ok (.iload_n 1, 1) := by decide +kernel
theorem dX12_worthOf_12 : decode prog_14_method_115_code 12 = .ok (.iaload, 1) := by decide +kernel
theorem dX12_worthOf_13 : decode prog_14_method_115_code 13 = .ok (.aload_n 0, 1) := by decide +kernel
theorem dX12_worthOf_14 : decode prog_14_method_115_code 14 = .ok (.getfield 344, 3) := by decide +kernel
theorem dX12_worthOf_17 : decode prog_14_method_115_code 17 = .ok (.invokevirtual 601, 3) := by decide +kernel
theorem dX12_worthOf_20 : decode prog_14_method_115_code 20 = .ok (.istore_n 2, 1) := by decide +kernel
theorem dX12_worthOf_21 : decode prog_14_method_115_code 21 = .ok (.aload_n 0, 1) := by decide +kernel
theorem dX12_worthOf_22 : decode prog_14_method_115_code 22 = .ok (.getfield 251, 3) := by decide +kernel
theorem dX12_worthOf_25 : decode prog_14_method_115_code 25 = .ok (.iload_n 1, 1) := by decide +kernel
theorem dX12_worthOf_26 : decode prog_14_method_115_code 26 = .ok (.iload_n 2, 1) := by decide +kernel
theorem dX12_worthOf_27 : decode prog_14_method_115_code 27 = .ok (.ifCond .eq 10, 3) := by decide +kernel
theorem dX12_worthOf_30 : decode prog_14_method_115_code 30 = .ok (.aload_n 0, 1) := by decide +kernel
theorem dX12_worthOf_31 : decode prog_14_method_115_code 31 = .ok (.getfield 580, 3) := by decide +kernel
theorem dX12_worthOf_34 : decode prog_14_method_115_code 34 = .ok (.goto 5, 3) := by decide +kernel
theorem dX12_worthOf_37 : decode prog_14_method_115_code 37 = .ok (.bipush 99, 2) := by decide +kernel
theorem dX12_worthOf_39 : decode prog_14_method_115_code 39 = .ok (.iastore, 1) := by decide +kernel
theorem dX12_worthOf_40 : decode prog_14_method_115_code 40 = .ok (.aload_n 0, 1) := by decide +kernel
theorem dX12_worthOf_41 : decode prog_14_method_115_code 41 = .ok (.getfield 254, 3) := by decide +kernel
theorem dX12_worthOf_44 : decode prog_14_method_115_code 44 = .ok (.iload_n 1, 1) := by decide +kernel
theorem dX12_worthOf_45 : decode prog_14_method_115_code 45 = .ok (.iload_n 2, 1) := by decide +kernel
theorem dX12_worthOf_46 : decode prog_14_method_115_code 46 = .ok (.ifCond .eq 10, 3) := by decide +kernel
theorem dX12_worthOf_49 : decode prog_14_method_115_code 49 = .ok (.aload_n 0, 1) := by decide +kernel
theorem dX12_worthOf_50 : decode prog_14_method_115_code 50 = .ok (.getfield 583, 3) := by decide +kernel
theorem dX12_worthOf_53 : decode prog_14_method_115_code 53 = .ok (.goto 4, 3) := by decide +kernel
theorem dX12_worthOf_56 : decode prog_14_method_115_code 56 = .ok (.iconst 0, 1) := by decide +kernel
theorem dX12_worthOf_57 : decode prog_14_method_115_code 57 = .ok (.iastore, 1) := by decide +kernel
theorem dX12_worthOf_58 : decode prog_14_method_115_code 58 = .ok (.iload_n 2, 1) := by decide +kernel
theorem dX12_worthOf_59 : decode prog_14_method_115_code 59 = .ok (.ifCond .eq 55, 3) := by decide +kernel
theorem dX12_worthOf_62 : decode prog_14_method_115_code 62 = .ok (.aload_n 0, 1) := by decide +kernel
theorem dX12_worthOf_63 : decode prog_14_method_115_code 63 = .ok (.getfield 580, 3) := by decide +kernel
theorem dX12_worthOf_66 : decode prog_14_method_115_code 66 = .ok (.aload_n 0, 1) := by decide +kernel
theorem dX12_worthOf_67 : decode prog_14_method_115_code 67 = .ok (.aload_n 0, 1) := by decide +kernel
theorem dX12_worthOf_68 : decode prog_14_method_115_code 68 = .ok (.getfield 344, 3) := by decide +kernel
theorem dX12_worthOf_71 : decode prog_14_method_115_code 71 = .ok (.iconst 3, 1) := by decide +kernel
theorem dX12_worthOf_72 : decode prog_14_method_115_code 72 = .ok (.invokevirtual 493, 3) := by decide +kernel
theorem dX12_worthOf_75 : decode prog_14_method_115_code 75 = .ok (.if_icmp .gt 39, 3) := by decide +kernel
theorem dX12_worthOf_78 : decode prog_14_method_115_code 78 = .ok (.aload_n 0, 1) := by decide +kernel
theorem dX12_worthOf_79 : decode prog_14_method_115_code 79 = .ok (.getfield 583, 3) := by decide +kernel
theorem dX12_worthOf_82 : decode prog_14_method_115_code 82 = .ok (.aload_n 0, 1) := by decide +kernel
theorem dX12_worthOf_83 : decode prog_14_method_115_code 83 = .ok (.aload_n 0, 1) := by decide +kernel
theorem dX12_worthOf_84 : decode prog_14_method_115_code 84 = .ok (.getfield 344, 3) := by decide +kernel
theorem dX12_worthOf_87 : decode prog_14_method_115_code 87 = .ok (.iconst 1, 1) := by decide +kernel
theorem dX12_worthOf_88 : decode prog_14_method_115_code 88 = .ok (.invokevirtual 493, 3) := by decide +kernel
theorem dX12_worthOf_91 : decode prog_14_method_115_code 91 = .ok (.if_icmp .lt 5, 3) := by decide +kernel
theorem dX12_worthOf_94 : decode prog_14_method_115_code 94 = .ok (.iconst 1, 1) := by decide +kernel
theorem dX12_worthOf_95 : decode prog_14_method_115_code 95 = .ok (.ireturn, 1) := by decide +kernel
theorem dX12_worthOf_96 : decode prog_14_method_115_code 96 = .ok (.aload_n 0, 1) := by decide +kernel
theorem dX12_worthOf_97 : decode prog_14_method_115_code 97 = .ok (.getfield 583, 3) := by decide +kernel
theorem dX12_worthOf_100 : decode prog_14_method_115_code 100 = .ok (.aload_n 0, 1) := by decide +kernel
theorem dX12_worthOf_101 : decode prog_14_method_115_code 101 = .ok (.aload_n 0, 1) := by decide +kernel
theorem dX12_worthOf_102 : decode prog_14_method_115_code 102 = .ok (.getfield 344, 3) := by decide +kernel
theorem dX12_worthOf_105 : decode prog_14_method_115_code 105 = .ok (.iconst 2, 1) := by decide +kernel
theorem dX12_worthOf_106 : decode prog_14_method_115_code 106 = .ok (.invokevirtual 493, 3) := by decide +kernel
theorem dX12_worthOf_109 : decode prog_14_method_115_code 109 = .ok (.if_icmp .lt 5, 3) := by decide +kernel
theorem dX12_worthOf_112 : decode prog_14_method_115_code 112 = .ok (.iconst 2, 1) := by decide +kernel
theorem dX12_worthOf_113 : decode prog_14_method_115_code 113 = .ok (.ireturn, 1) := by decide +kernel
theorem dX12_worthOf_114 : decode prog_14_method_115_code 114 = .ok (.aload_n 0, 1) := by decide +kernel
theorem dX12_worthOf_115 : decode prog_14_method_115_code 115 = .ok (.aload_n 0, 1) := by decide +kernel
theorem dX12_worthOf_116 : decode prog_14_method_115_code 116 = .ok (.getfield 230, 3) := by decide +kernel
theorem dX12_worthOf_119 : decode prog_14_method_115_code 119 = .ok (.iload_n 1, 1) := by decide +kernel
theorem dX12_worthOf_120 : decode prog_14_method_115_code 120 = .ok (.iaload, 1) := by decide +kernel
theorem dX12_worthOf_121 : decode prog_14_method_115_code 121 = .ok (.aload_n 0, 1) := by decide +kernel
theorem dX12_worthOf_122 : decode prog_14_method_115_code 122 = .ok (.getfield 227, 3) := by decide +kernel
theorem dX12_worthOf_125 : decode prog_14_method_115_code 125 = .ok (.iload_n 1, 1) := by decide +kernel
theorem dX12_worthOf_126 : decode prog_14_method_115_code 126 = .ok (.iaload, 1) := by decide +kernel
theorem dX12_worthOf_127 : decode prog_14_method_115_code 127 = .ok (.aload_n 0, 1) := by decide +kernel
theorem dX12_worthOf_128 : decode prog_14_method_115_code 128 = .ok (.getfield 344, 3) := by decide +kernel
theorem dX12_worthOf_131 : decode prog_14_method_115_code 131 = .ok (.sipush 365, 3) := by decide +kernel
theorem dX12_worthOf_134 : decode prog_14_method_115_code 134 = .ok (.idiv, 1) := by decide +kernel
theorem dX12_worthOf_135 : decode prog_14_method_115_code 135 = .ok (.aload_n 0, 1) := by decide +kernel
theorem dX12_worthOf_136 : decode prog_14_method_115_code 136 = .ok (.getfield 344, 3) := by decide +kernel
theorem dX12_worthOf_139 : decode prog_14_method_115_code 139 = .ok (.invokevirtual 619, 3) := by decide +kernel
theorem dX12_worthOf_142 : decode prog_14_method_115_code 142 = .ok (.aload_n 0, 1) := by decide +kernel
theorem dX12_worthOf_143 : decode prog_14_method_115_code 143 = .ok (.aload_n 0, 1) := by decide +kernel
theorem dX12_worthOf_144 : decode prog_14_method_115_code 144 = .ok (.getfield 344, 3) := by decide +kernel
theorem dX12_worthOf_147 : decode prog_14_method_115_code 147 = .ok (.iconst 5, 1) := by decide +kernel
theorem dX12_worthOf_148 : decode prog_14_method_115_code 148 = .ok (.invokevirtual 493, 3) := by decide +kernel
theorem dX12_worthOf_151 : decode prog_14_method_115_code 151 = .ok (.if_icmp .lt 7, 3) := by decide +kernel
theorem dX12_worthOf_154 : decode prog_14_method_115_code 154 = .ok (.iconst 2, 1) := by decide +kernel
theorem dX12_worthOf_155 : decode prog_14_method_115_code 155 = .ok (.goto 4, 3) := by decide +kernel
theorem dX12_worthOf_158 : decode prog_14_method_115_code 158 = .ok (.iconst 3, 1) := by decide +kernel
theorem dX12_worthOf_159 : decode prog_14_method_115_code 159 = .ok (.ireturn, 1) := by decide +kernel
noncomputable def F_X12_worthOf_b114 (v1 : Int) (M : bM) : Option (Int × bM) :=
  b_g (0 ≤ v1 ∧ v1 < 30) (b_bind (F_X12_heldOf (M 232 v1) (M 231 v1) (i_div (M 11 11) 365) (M 11 11) M) (fun t => b_two t (fun x12 M13 => b_bind (F_X12_ruleOn (M13 11 11) 5 M13) (fun x14 => if x12 < x14 then (some (3, M13)) else (some (2, M13))))))
theorem t_X12_worthOf_b114 {l : Launch} {E : bE} {Q : (Int × bM) → Prop} {v1 : Int} {M : bM} (h : b_wp (F_X12_worthOf_b114 v1 M) (Q)) : V l E xX12_worthOf (0, 0) 114 [(0, bR 11), (1, bI v1)] [] M (b_pI Q) := by
  unfold F_X12_worthOf_b114 at h
  obtain ⟨g11, h⟩ := b_wp_g h
  refine v_aload_n (f := 0) 0 rfl dX12_worthOf_114 ?_
  refine v_aload_n (f := 0) 0 rfl dX12_worthOf_115 ?_
  refine v_getR (kf := 109) (kz := 109) rfl kd_11 rfl ⟨by decide, by decide⟩ rfl wf_12_230 dX12_worthOf_116 ?_
  refine v_iload_n (f := 1) 1 rfl dX12_worthOf_119 ?_
  refine v_iaload kd_232 g11 (by decide) dX12_worthOf_120 ?_
  refine v_aload_n (f := 0) 0 rfl dX12_worthOf_121 ?_
  refine v_getR (kf := 108) (kz := 108) rfl kd_11 rfl ⟨by decide, by decide⟩ rfl wf_12_227 dX12_worthOf_122 ?_
  refine v_iload_n (f := 1) 1 rfl dX12_worthOf_125 ?_
  refine v_iaload kd_231 g11 (by decide) dX12_worthOf_126 ?_
  refine v_aload_n (f := 0) 0 rfl dX12_worthOf_127 ?_
  refine v_getI (kf := 11) (kz := 11) rfl kd_11 rfl ⟨by decide, by decide⟩ rfl wf_12_344 dX12_worthOf_128 ?_
  refine v_sipush ⟨by decide, by decide⟩ (by decide) dX12_worthOf_131 ?_
  refine v_idiv (v := i_div _ _) (by decide) rfl dX12_worthOf_134 ?_
  refine v_aload_n (f := 0) 0 rfl dX12_worthOf_135 ?_
  refine v_getI (kf := 11) (kz := 11) rfl kd_11 rfl ⟨by decide, by decide⟩ rfl wf_12_344 dX12_worthOf_136 ?_
  refine v_cVI (nA := 4) (As := [bI _, bI _, bI _, bI _]) (ix := 619) (cf_X12_heldOf (b_wp_b h)) rfl kd_11 rfl rfl wc_X12_heldOf wm_12_619 wi_X12_heldOf ws_X12_heldOf wn_12 ⟨by decide, by decide, by decide⟩ rfl ⟨by decide, by decide⟩ ⟨by decide, by decide⟩ (Nat.le_of_ble_eq_true rfl) dX12_worthOf_139 (fun x12 M13 h => ?_)
  replace h := b_wp_two h
  refine v_aload_n (f := 0) 0 rfl dX12_worthOf_142 ?_
  refine v_aload_n (f := 0) 0 rfl dX12_worthOf_143 ?_
  refine v_getI (kf := 11) (kz := 11) rfl kd_11 rfl ⟨by decide, by decide⟩ rfl wf_12_344 dX12_worthOf_144 ?_
  refine v_iconst ⟨by decide, by decide⟩ dX12_worthOf_147 ?_
  refine v_cVIp (nA := 2) (As := [bI _, bI _]) (ix := 493) (cf_X12_ruleOn (b_wp_b h)) rfl kd_11 rfl rfl wc_X12_ruleOn wm_12_493 wi_X12_ruleOn ws_X12_ruleOn wn_12 ⟨by decide, by decide, by decide⟩ rfl ⟨by decide, by decide⟩ ⟨by decide, by decide⟩ (Nat.le_of_ble_eq_true rfl) dX12_worthOf_148 (fun x14 h => ?_)
  refine v_icmp_lt (tgt := 158) dX12_worthOf_151 (by decide) (fun c15 => ?_) (fun c15 => ?_)
  · replace h := b_wp_t c15 h
    refine v_iconst ⟨by decide, by decide⟩ dX12_worthOf_158 ?_
    refine v_ireturn rfl dX12_worthOf_159 ⟨by decide, by decide⟩ ?_
    exact ⟨_, rfl, h⟩
  · replace h := b_wp_f c15 h
    refine v_iconst ⟨by decide, by decide⟩ dX12_worthOf_154 ?_
    refine v_goto (tgt := 159) dX12_worthOf_155 (by decide) ?_
    refine v_ireturn rfl dX12_worthOf_159 ⟨by decide, by decide⟩ ?_
    exact ⟨_, rfl, h⟩
noncomputable def F_X12_worthOf_b57 (v1 : Int) (v2 : Int) (u1 : Int) (u2 : Int) (M : bM) : Option (Int × bM) :=
  b_g (0 ≤ u1 ∧ u1 < 30) (b_let (b_up M 240 u1 u2) (fun M9 => if v2 = 0 then (F_X12_worthOf_b114 v1 M9) else (b_bind (F_X12_ruleOn (M9 11 11) 3 M9) (fun x16 => if x16 < (M9 11 84) then (F_X12_worthOf_b114 v1 M9) else (b_bind (F_X12_ruleOn (M9 11 11) 1 M9) (fun x18 => if (M9 11 85) < x18 then (b_bind (F_X12_ruleOn (M9 11 11) 2 M9) (fun x20 => if (M9 11 85) < x20 then (F_X12_worthOf_b114 v1 M9) else (some (2, M9)))) else (some (1, M9))))))))
theorem t_X12_worthOf_b57 {l : Launch} {E : bE} {Q : (Int × bM) → Prop} {v1 : Int} {v2 : Int} {u1 : Int} {u2 : Int} {M : bM} (h : b_wp (F_X12_worthOf_b57 v1 v2 u1 u2 M) (Q)) : V l E xX12_worthOf (0, 0) 57 [(0, bR 11), (1, bI v1), (2, bI v2)] [bI u2, bI u1, bR 240] M (b_pI Q) := by
  unfold F_X12_worthOf_b57 at h
  obtain ⟨g8, h⟩ := b_wp_g h
  refine v_iastore kd_240 g8 (by decide) dX12_worthOf_57 ?_
  replace h := b_wp_l h
  refine v_iload_n (f := 2) 2 rfl dX12_worthOf_58 ?_
  refine v_if_eq (tgt := 114) dX12_worthOf_59 (by decide) (fun c10 => ?_) (fun c10 => ?_)
  · replace h := b_wp_t c10 h
    refine v_sub (ls2 := [(0, bR _), (1, bI _)]) [0, 1] rfl ?_
    exact t_X12_worthOf_b114 h
  · replace h := b_wp_f c10 h
    refine v_aload_n (f := 0) 0 rfl dX12_worthOf_62 ?_
    refine v_getI (kf := 84) (kz := 84) rfl kd_11 rfl ⟨by decide, by decide⟩ rfl wf_12_580 dX12_worthOf_63 ?_
    refine v_aload_n (f := 0) 0 rfl dX12_worthOf_66 ?_
    refine v_aload_n (f := 0) 0 rfl dX12_worthOf_67 ?_
    refine v_getI (kf := 11) (kz := 11) rfl kd_11 rfl ⟨by decide, by decide⟩ rfl wf_12_344 dX12_worthOf_68 ?_
    refine v_iconst ⟨by decide, by decide⟩ dX12_worthOf_71 ?_
    refine v_cVIp (nA := 2) (As := [bI _, bI _]) (ix := 493) (cf_X12_ruleOn (b_wp_b h)) rfl kd_11 rfl rfl wc_X12_ruleOn wm_12_493 wi_X12_ruleOn ws_X12_ruleOn wn_12 ⟨by decide, by decide, by decide⟩ rfl ⟨by decide, by decide⟩ ⟨by decide, by decide⟩ (Nat.le_of_ble_eq_true rfl) dX12_worthOf_72 (fun x16 h => ?_)
    refine v_icmp_gt (tgt := 114) dX12_worthOf_75 (by decide) (fun c17 => ?_) (fun c17 => ?_)
    · replace h := b_wp_t c17 h
      refine v_sub (ls2 := [(0, bR _), (1, bI _)]) [0, 1] rfl ?_
      exact t_X12_worthOf_b114 h
    · replace h := b_wp_f c17 h
      refine v_aload_n (f := 0) 0 rfl dX12_worthOf_78 ?_
      refine v_getI (kf := 85) (kz := 85) rfl kd_11 rfl ⟨by decide, by decide⟩ rfl wf_12_583 dX12_worthOf_79 ?_
      refine v_aload_n (f := 0) 0 rfl dX12_worthOf_82 ?_
      refine v_aload_n (f := 0) 0 rfl dX12_worthOf_83 ?_
      refine v_getI (kf := 11) (kz := 11) rfl kd_11 rfl ⟨by decide, by decide⟩ rfl wf_12_344 dX12_worthOf_84 ?_
      refine v_iconst ⟨by decide, by decide⟩ dX12_worthOf_87 ?_
      refine v_cVIp (nA := 2) (As := [bI _, bI _]) (ix := 493) (cf_X12_ruleOn (b_wp_b h)) rfl kd_11 rfl rfl wc_X12_ruleOn wm_12_493 wi_X12_ruleOn ws_X12_ruleOn wn_12 ⟨by decide, by decide, by decide⟩ rfl ⟨by decide, by decide⟩ ⟨by decide, by decide⟩ (Nat.le_of_ble_eq_true rfl) dX12_worthOf_88 (fun x18 h => ?_)
      refine v_icmp_lt (tgt := 96) dX12_worthOf_91 (by decide) (fun c19 => ?_) (fun c19 => ?_)
      · replace h := b_wp_t c19 h
        refine v_aload_n (f := 0) 0 rfl dX12_worthOf_96 ?_
        refine v_getI (kf := 85) (kz := 85) rfl kd_11 rfl ⟨by decide, by decide⟩ rfl wf_12_583 dX12_worthOf_97 ?_
        refine v_aload_n (f := 0) 0 rfl dX12_worthOf_100 ?_
        refine v_aload_n (f := 0) 0 rfl dX12_worthOf_101 ?_
        refine v_getI (kf := 11) (kz := 11) rfl kd_11 rfl ⟨by decide, by decide⟩ rfl wf_12_344 dX12_worthOf_102 ?_
        refine v_iconst ⟨by decide, by decide⟩ dX12_worthOf_105 ?_
        refine v_cVIp (nA := 2) (As := [bI _, bI _]) (ix := 493) (cf_X12_ruleOn (b_wp_b h)) rfl kd_11 rfl rfl wc_X12_ruleOn wm_12_493 wi_X12_ruleOn ws_X12_ruleOn wn_12 ⟨by decide, by decide, by decide⟩ rfl ⟨by decide, by decide⟩ ⟨by decide, by decide⟩ (Nat.le_of_ble_eq_true rfl) dX12_worthOf_106 (fun x20 h => ?_)
        refine v_icmp_lt (tgt := 114) dX12_worthOf_109 (by decide) (fun c21 => ?_) (fun c21 => ?_)
        · replace h := b_wp_t c21 h
          refine v_sub (ls2 := [(0, bR _), (1, bI _)]) [0, 1] rfl ?_
          exact t_X12_worthOf_b114 h
        · replace h := b_wp_f c21 h
          refine v_iconst ⟨by decide, by decide⟩ dX12_worthOf_112 ?_
          refine v_ireturn rfl dX12_worthOf_113 ⟨by decide, by decide⟩ ?_
          exact ⟨_, rfl, h⟩
      · replace h := b_wp_f c19 h
        refine v_iconst ⟨by decide, by decide⟩ dX12_worthOf_94 ?_
        refine v_ireturn rfl dX12_worthOf_95 ⟨by decide, by decide⟩ ?_
        exact ⟨_, rfl, h⟩
noncomputable def F_X12_worthOf_b39 (v1 : Int) (v2 : Int) (u1 : Int) (u2 : Int) (M : bM) : Option (Int × bM) :=
  b_g (0 ≤ u1 ∧ u1 < 30) (b_let (b_up M 239 u1 u2) (fun M6 => if v2 = 0 then (F_X12_worthOf_b57 v1 v2 v1 0 M6) else (F_X12_worthOf_b57 v1 v2 v1 (M6 11 85) M6)))
theorem t_X12_worthOf_b39 {l : Launch} {E : bE} {Q : (Int × bM) → Prop} {v1 : Int} {v2 : Int} {u1 : Int} {u2 : Int} {M : bM} (h : b_wp (F_X12_worthOf_b39 v1 v2 u1 u2 M) (Q)) : V l E xX12_worthOf (0, 0) 39 [(0, bR 11), (1, bI v1), (2, bI v2)] [bI u2, bI u1, bR 239] M (b_pI Q) := by
  unfold F_X12_worthOf_b39 at h
  obtain ⟨g5, h⟩ := b_wp_g h
  refine v_iastore kd_239 g5 (by decide) dX12_worthOf_39 ?_
  replace h := b_wp_l h
  refine v_aload_n (f := 0) 0 rfl dX12_worthOf_40 ?_
  refine v_getR (kf := 117) (kz := 117) rfl kd_11 rfl ⟨by decide, by decide⟩ rfl wf_12_254 dX12_worthOf_41 ?_
  refine v_iload_n (f := 1) 1 rfl dX12_worthOf_44 ?_
  refine v_iload_n (f := 2) 2 rfl dX12_worthOf_45 ?_
  refine v_if_eq (tgt := 56) dX12_worthOf_46 (by decide) (fun c7 => ?_) (fun c7 => ?_)
  · replace h := b_wp_t c7 h
    refine v_iconst ⟨by decide, by decide⟩ dX12_worthOf_56 ?_
    exact t_X12_worthOf_b57 h
  · replace h := b_wp_f c7 h
    refine v_aload_n (f := 0) 0 rfl dX12_worthOf_49 ?_
    refine v_getI (kf := 85) (kz := 85) rfl kd_11 rfl ⟨by decide, by decide⟩ rfl wf_12_583 dX12_worthOf_50 ?_
    refine v_goto (tgt := 57) dX12_worthOf_53 (by decide) ?_
    exact t_X12_worthOf_b57 h
noncomputable def F_X12_worthOf (v1 : Int) (M : bM) : Option (Int × bM) :=
  b_g (0 ≤ v1 ∧ v1 < 30) (b_bind (F_X12_makeChain (M 232 v1) (M 231 v1) (M 11 11) M) (fun t => b_two t (fun x2 M3 => if x2 = 0 then (F_X12_worthOf_b39 v1 x2 v1 99 M3) else (F_X12_worthOf_b39 v1 x2 v1 (M3 11 84) M3))))
theorem t_X12_worthOf {l : Launch} {E : bE} {Q : (Int × bM) → Prop} {v1 : Int} {M : bM} (h : b_wp (F_X12_worthOf v1 M) (Q)) : V l E xX12_worthOf (0, 0) 0 [(0, bR 11), (1, bI v1)] [] M (b_pI Q) := by
  unfold F_X12_worthOf at h
  obtain ⟨g1, h⟩ := b_wp_g h
  refine v_aload_n (f := 0) 0 rfl dX12_worthOf_0 ?_
  refine v_aload_n (f := 0) 0 rfl dX12_worthOf_1 ?_
  refine v_getR (kf := 109) (kz := 109) rfl kd_11 rfl ⟨by decide, by decide⟩ rfl wf_12_230 dX12_worthOf_2 ?_
  refine v_iload_n (f := 1) 1 rfl dX12_worthOf_5 ?_
  refine v_iaload kd_232 g1 (by decide) dX12_worthOf_6 ?_
  refine v_aload_n (f := 0) 0 rfl dX12_worthOf_7 ?_
  refine v_getR (kf := 108) (kz := 108) rfl kd_11 rfl ⟨by decide, by decide⟩ rfl wf_12_227 dX12_worthOf_8 ?_
  refine v_iload_n (f := 1) 1 rfl dX12_worthOf_11 ?_
  refine v_iaload kd_231 g1 (by decide) dX12_worthOf_12 ?_
  refine v_aload_n (f := 0) 0 rfl dX12_worthOf_13 ?_
  refine v_getI (kf := 11) (kz := 11) rfl kd_11 rfl ⟨by decide, by decide⟩ rfl wf_12_344 dX12_worthOf_14 ?_
  refine v_cVI (nA := 3) (As := [bI _, bI _, bI _]) (ix := 601) (cf_X12_makeChain (b_wp_b h)) rfl kd_11 rfl rfl wc_X12_makeChain wm_12_601 wi_X12_makeChain ws_X12_makeChain wn_12 ⟨by decide, by decide, by decide⟩ rfl ⟨by decide, by decide⟩ ⟨by decide, by decide⟩ (Nat.le_of_ble_eq_true rfl) dX12_worthOf_17 (fun x2 M3 h => ?_)
  replace h := b_wp_two h
  refine v_istore_n (g := 2) (i := 2) (ls' := [(2, bI _), (0, bR _), (1, bI _)]) rfl (by decide) dX12_worthOf_20 rfl ?_
  refine v_aload_n (f := 0) 1 rfl dX12_worthOf_21 ?_
  refine v_getR (kf := 116) (kz := 116) rfl kd_11 rfl ⟨by decide, by decide⟩ rfl wf_12_251 dX12_worthOf_22 ?_
  refine v_iload_n (f := 1) 2 rfl dX12_worthOf_25 ?_
  refine v_iload_n (f := 2) 0 rfl dX12_worthOf_26 ?_
  refine v_if_eq (tgt := 37) dX12_worthOf_27 (by decide) (fun c4 => ?_) (fun c4 => ?_)
  · replace h := b_wp_t c4 h
    refine v_bipush ⟨by decide, by decide⟩ (by decide) dX12_worthOf_37 ?_
    refine v_sub (ls2 := [(0, bR _), (1, bI _), (2, bI _)]) [1, 2, 0] rfl ?_
    exact t_X12_worthOf_b39 h
  · replace h := b_wp_f c4 h
    refine v_aload_n (f := 0) 1 rfl dX12_worthOf_30 ?_
    refine v_getI (kf := 84) (kz := 84) rfl kd_11 rfl ⟨by decide, by decide⟩ rfl wf_12_580 dX12_worthOf_31 ?_
    refine v_goto (tgt := 39) dX12_worthOf_34 (by decide) ?_
    refine v_sub (ls2 := [(0, bR _), (1, bI _), (2, bI _)]) [1, 2, 0] rfl ?_
    exact t_X12_worthOf_b39 h
theorem cf_X12_worthOf {l : Launch} {E : bE} {M : bM} {v1 : Int} {Q : (Int × bM) → Prop} (h : b_wp (F_X12_worthOf v1 M) Q) : b_C l E xX12_worthOf yX12_worthOf [bR 11, bI v1] M (b_pI Q) := b_met (by decide) ⟨rfl, rfl⟩ (Nat.le_of_ble_eq_true rfl) (fun _ _ => t_X12_worthOf h)
abbrev xX12_worth : bX := ("BurntHallModel", prog_14_method_116_code, 2, (Option.some Jvm.ClassFile.FieldType.int), b_rm 7 0 0, 0, "worth")
abbrev yX12_worth : MethodName := ⟨"BurntHallModel", "worth", "(I)I"⟩
theorem dX12_worth_0 : decode prog_14_method_116_code 0 = .ok (.iload_n 1, 1) := by decide +kernel
theorem dX12_worth_1 : decode prog_14_method_116_code 1 = .ok (.iconst 0, 1) := by decide +kernel
theorem dX12_worth_2 : decode prog_14_method_116_code 2 = .ok (.aload_n 0, 1) := by decide +kernel
theorem dX12_worth_3 : decode prog_14_method_116_code 3 = .ok (.getfield 635, 3) := by decide +kernel
theorem dX12_worth_6 : decode prog_14_method_116_code 6 = .ok (.iconst 1, 1) := by decide +kernel
theorem dX12_worth_7 : decode prog_14_method_116_code 7 = .ok (.isub, 1) := by decide +kernel
theorem dX12_worth_8 : decode prog_14_method_116_code 8 = .ok (.invokestatic 279, 3) := by decide +kernel
theorem dX12_worth_11 : decode prog_14_method_116_code 11 = .ok (.ifCond .eq 11, 3) := by decide +kernel
theorem dX12_worth_14 : decode prog_14_method_116_code 14 = .ok (.aload_n 0, 1) := by decide +kernel
theorem dX12_worth_15 : decode prog_14_method_116_code 15 = .ok (.iload_n 1, 1) := by decide +kernel
theorem dX12_worth_16 : decode prog_14_method_116_code 16 = .ok (.invokevirtual 638, 3) := by decide +kernel
theorem dX12_worth_19 : decode prog_14_method_116_code 19 = .ok (.goto 5, 3) := by decide +kernel
theorem dX12_worth_22 : decode prog_14_method_116_code 22 = .ok (.bipush (-2), 2) := by decide +kernel
theorem dX12_worth_24 : decode prog_14_method_116_code 24 = .ok (.ireturn, 1) := by decide +kernel
noncomputable def F_X12_worth (v1 : Int) (M : bM) : Option (Int × bM) :=
  b_g (b_i32 ((M 11 106) - 1)) (b_bind (F_X12_in v1 0 ((M 11 106) - 1) M) (fun x2 => if x2 = 0 then (some ((-2), M)) else (b_bind (F_X12_worthOf v1 M) (fun t => b_two t (fun x4 M5 => some (x4, M5))))))
theorem t_X12_worth {l : Launch} {E : bE} {Q : (Int × bM) → Prop} {v1 : Int} {M : bM} (h : b_wp (F_X12_worth v1 M) (Q)) : V l E xX12_worth (0, 0) 0 [(0, bR 11), (1, bI v1)] [] M (b_pI Q) := by
  unfold F_X12_worth at h
  obtain ⟨g1, h⟩ := b_wp_g h
  refine v_iload_n (f := 1) 1 rfl dX12_worth_0 ?_
  refine v_iconst ⟨by decide, by decide⟩ dX12_worth_1 ?_
  refine v_aload_n (f := 0) 0 rfl dX12_worth_2 ?_
  refine v_getI (kf := 106) (kz := 106) rfl kd_11 rfl ⟨by decide, by decide⟩ rfl wf_12_635 dX12_worth_3 ?_
  refine v_iconst ⟨by decide, by decide⟩ dX12_worth_6 ?_
  refine v_isubN g1 dX12_worth_7 ?_
  refine v_cSIp (nA := 3) (As := [bI _, bI _, bI _]) (ix := 279) (cf_X12_in (b_wp_b h)) rfl wc_X12_in wm_12_279 wi_X12_in wn_12 ⟨by decide, by decide, by decide⟩ rfl ⟨by decide, by decide⟩ ⟨by decide, by decide⟩ (Nat.le_of_ble_eq_true rfl) dX12_worth_8 (fun x2 h => ?_)
  refine v_if_eq (tgt := 22) dX12_worth_11 (by decide) (fun c3 => ?_) (fun c3 => ?_)
  · replace h := b_wp_t c3 h
    refine v_bipush ⟨by decide, by decide⟩ (by decide) dX12_worth_22 ?_
    refine v_ireturn rfl dX12_worth_24 ⟨by decide, by decide⟩ ?_
    exact ⟨_, rfl, h⟩
  · replace h := b_wp_f c3 h
    refine v_aload_n (f := 0) 0 rfl dX12_worth_14 ?_
    refine v_iload_n (f := 1) 1 rfl dX12_worth_15 ?_
    refine v_cVI (nA := 1) (As := [bI _]) (ix := 638) (cf_X12_worthOf (b_wp_b h)) rfl kd_11 rfl rfl wc_X12_worthOf wm_12_638 wi_X12_worthOf ws_X12_worthOf wn_12 ⟨by decide, by decide, by decide⟩ rfl ⟨by decide, by decide⟩ ⟨by decide, by decide⟩ (Nat.le_of_ble_eq_true rfl) dX12_worth_16 (fun x4 M5 h => ?_)
    replace h := b_wp_two h
    refine v_goto (tgt := 24) dX12_worth_19 (by decide) ?_
    refine v_ireturn rfl dX12_worth_24 ⟨by decide, by decide⟩ ?_
    exact ⟨_, rfl, h⟩
theorem cf_X12_worth {l : Launch} {E : bE} {M : bM} {v1 : Int} {Q : (Int × bM) → Prop} (h : b_wp (F_X12_worth v1 M) Q) : b_C l E xX12_worth yX12_worth [bR 11, bI v1] M (b_pI Q) := b_met (by decide) ⟨rfl, rfl⟩ (Nat.le_of_ble_eq_true rfl) (fun _ _ => t_X12_worth h)
abbrev xX12_sit : bX := ("BurntHallModel", prog_14_method_117_code, 8, (Option.some Jvm.ClassFile.FieldType.int), b_rm 7 0 0, 0, "sit")
abbrev yX12_sit : MethodName := ⟨"BurntHallModel", "sit", "(I)I"⟩
theorem dX12_sit_0 : decode prog_14_method_117_code 0 = .ok (.aload_n 0, 1) := by decide +kernel
theorem dX12_sit_1 : decode prog_14_method_117_code 1 = .ok (.iload_n 1, 1) := by decide +kernel
theorem dX12_sit_2 : decode prog_14_method_117_code 2 = .ok (.invokevirtual 385, 3) := by decide +kernel
theorem dX12_sit_5 : decode prog_14_method_117_code 5 = .ok (.ifCond .ne 6, 3) := by decide +kernel
theorem dX12_sit_8 : decode prog_14_method_117_code 8 = .ok (.bipush (-2), 2) := by decide +kernel
theorem dX12_sit_10 : decode prog_14_method_117_code 10 = .ok (.ireturn, 1) := by decide +kernel
theorem dX12_sit_11 : decode prog_14_method_117_code 11 = .ok (.aload_n 0, 1) := by decide +kernel
theorem dX12_sit_12 : decode prog_14_method_117_code 12 = .ok (.getfield 242, 3) := by decide +kernel
theorem dX12_sit_15 : decode prog_14_method_117_code 15 = .ok (.iload_n 1, 1) := by decide +kernel
theorem dX12_sit_16 : decode prog_14_method_117_code 16 = .ok (.iaload, 1) := by decide +kernel
theorem dX12_sit_17 : decode prog_14_method_117_code 17 = .ok (.iconst (-1), 1) := by decide +kernel
theorem dX12_sit_18 : decode prog_14_method_117_code 18 = .ok (.if_icmp .eq 6, 3) := by decide +kernel
theorem dX12_sit_21 : decode prog_14_method_117_code 21 = .ok (.bipush (-4), 2) := by decide +kernel
theorem dX12_sit_23 : decode prog_14_method_117_code 23 = .ok (.ireturn, 1) := by decide +kernel
theorem dX12_sit_24 : decode prog_14_method_117_code 24 = .ok (.iconst 0, 1) := by decide +kernel
theorem dX12_sit_25 : decode prog_14_method_117_code 25 = .ok (.istore_n 2, 1) := by decide +kernel
theorem dX12_sit_26 : decode prog_14_method_117_code 26 = .ok (.iconst (-1), 1) := by decide +kernel
theorem dX12_sit_27 : decode prog_14_method_117_code 27 = .ok (.istore_n 3, 1) := by decide +kernel
theorem dX12_sit_28 : decode prog_14_method_117_code 28 = .ok (.iconst 3, 1) := by decide +kernel
theorem dX12_sit_29 : decode prog_14_method_117_code 29 = .ok (.istore 4, 2) := by decide +kernel
theorem dX12_sit_31 : decode prog_14_method_117_code 31 = .ok (.iconst 0, 1) := by decide +kernel
theorem dX12_sit_32 : decode prog_14_method_117_code 32 = .ok (.istore 5, 2) := by decide +kernel
theorem dX12_sit_34 : decode prog_14_method_117_code 34 = .ok (.iload 5, 2) := by decide +kernel
theorem dX12_sit_36 : decode prog_14_method_117_code 36 = .ok (.aload_n 0, 1) := by decide +kernel
theorem dX12_sit_37 : decode prog_14_method_117_code 37 = .ok (.getfield 635, 3) := by decide +kernel
theorem dX12_sit_40 : decode prog_14_method_117_code 40 = .ok (.if_icmp .ge 171, 3) := by decide +kernel
theorem dX12_sit_43 : decode prog_14_method_117_code 43 = .ok (.aload_n 0, 1) := by decide +kernel
theorem dX12_sit_44 : decode prog_14_method_117_code 44 = .ok (.getfield 230, 3) := by decide +kernel
theorem dX12_sit_47 : decode prog_14_method_117_code 47 = .ok (.iload 5, 2) := by decide +kernel
theorem dX12_sit_49 : decode prog_14_method_117_code 49 = .ok (.iaload, 1) := by decide +kernel
theorem dX12_sit_50 : decode prog_14_method_117_code 50 = .ok (.iload_n 1, 1) := by decide +kernel
theorem dX12_sit_51 : decode prog_14_method_117_code 51 = .ok (.if_icmp .ne 154, 3) := by decide +kernel
theorem dX12_sit_54 : decode prog_14_method_117_code 54 = .ok (.aload_n 0, 1) := by decide +kernel
theorem dX12_sit_55 : decode prog_14_method_117_code 55 = .ok (.getfield 236, 3) := by decide +kernel
theorem dX12_sit_58 : decode prog_14_method_117_code 58 = .ok (.iload 5, 2) := by decide +kernel
theorem dX12_sit_60 : decode prog_14_method_117_code 60 = .ok (.iaload, 1) := by decide +kernel
theorem dX12_sit_61 : decode prog_14_method_117_code 61 = .ok (.ifCond .ne 144, 3) := by decide +kernel
theorem dX12_sit_64 : decode prog_14_method_117_code 64 = .ok (.aload_n 0, 1) := by decide +kernel
theorem dX12_sit_65 : decode prog_14_method_117_code 65 = .ok (.getfield 344, 3) := by decide +kernel
theorem dX12_sit_68 : decode prog_14_method_117_code 68 = .ok (.aload_n 0, 1) := by decide +kernel
theorem dX12_sit_69 : decode prog_14_method_117_code 69 = .ok (.getfield 233, 3) := by decide +kernel
theorem dX12_sit_72 : decode prog_14_method_117_code 72 = .ok (.iload 5, 2) := by decide +kernel
theorem dX12_sit_74 : decode prog_14_method_117_code 74 = .ok (.iaload, 1) := by decide +kernel
theorem dX12_sit_75 : decode prog_14_method_117_code 75 = .ok (.isub, 1) := by decide +kernel
theorem dX12_sit_76 : decode prog_14_method_117_code 76 = .ok (.aload_n 0, 1) := by decide +kernel
theorem dX12_sit_77 : decode prog_14_method_117_code 77 = .ok (.aload_n 0, 1) := by decide +kernel
theorem dX12_sit_78 : decode prog_14_method_117_code 78 = .ok (.getfield 344, 3) := by decide +kernel
theorem dX12_sit_81 : decode prog_14_method_117_code 81 = .ok (.iconst 4, 1) := by decide +kernel
theorem dX12_sit_82 : decode prog_14_method_117_code 82 = .ok (.invokevirtual 493, 3) := by decide +kernel
theorem dX12_sit_85 : decode prog_14_method_117_code 85 = .ok (.if_icmp .ge 6, 3) := by decide +kernel
theorem dX12_sit_88 : decode prog_14_method_117_code 88 = .ok (.goto 117, 3) := by decide +kernel
theorem dX12_sit_91 : decode prog_14_method_117_code 91 = .ok (.iinc 2 1, 3) := by decide +kernel
theorem dX12_sit_94 : decode prog_14_method_117_code 94 = .ok (.aload_n 0, 1) := by decide +kernel
theorem dX12_sit_95 : decode prog_14_method_117_code 95 = .ok (.iload 5, 2) := by decide +kernel
theorem dX12_sit_97 : decode prog_14_method_117_code 97 = .ok (.invokevirtual 638, 3) := by decide +kernel
theorem dX12_sit_100 : decode prog_14_method_117_code 100 = .ok (.istore 6, 2) := by decide +kernel
theorem dX12_sit_102 : decode prog_14_method_117_code 102 = .ok (.aload_n 0, 1) := by decide +kernel
theorem dX12_sit_103 : decode prog_14_method_117_code 103 = .ok (.getfield 236, 3) := by decide +kernel
theorem dX12_sit_106 : decode prog_14_method_117_code 106 = .ok (.iload 5, 2) := by decide +kernel
theorem dX12_sit_108 : decode prog_14_method_117_code 108 = .ok (.iconst 3, 1) := by decide +kernel
theorem dX12_sit_109 : decode prog_14_method_117_code 109 = .ok (.iastore, 1) := by decide +kernel
theorem dX12_sit_110 : decode prog_14_method_117_code 110 = .ok (.iload_n 3, 1) := by decide +kernel
theorem dX12_sit_111 : decode prog_14_method_117_code 111 = .ok (.iconst (-1), 1) := by decide +kernel
theorem dX12_sit_112 : decode prog_14_method_117_code 112 = .ok (.if_icmp .eq 69, 3) := by decide +kernel
theorem dX12_sit_115 : decode prog_14_method_117_code 115 = .ok (.iload 6, 2) := by decide +kernel
theorem dX12_sit_117 : decode prog_14_method_117_code 117 = .ok (.iload 4, 2) := by decide +kernel
theorem dX12_sit_119 : decode prog_14_method_117_code 119 = .ok (.if_icmp .gt 58, 3) := by decide +kernel
theorem dX12_sit_122 : decode prog_14_method_117_code 122 = .ok (.iload 6, 2) := by decide +kernel
theorem dX12_sit_124 : decode prog_14_method_117_code 124 = .ok (.iload 4, 2) := by decide +kernel
theorem dX12_sit_126 : decode prog_14_method_117_code 126 = .ok (.if_icmp .ne 55, 3) := by decide +kernel
theorem dX12_sit_129 : decode prog_14_method_117_code 129 = .ok (.aload_n 0, 1) := by decide +kernel
theorem dX12_sit_130 : decode prog_14_method_117_code 130 = .ok (.getfield 251, 3) := by decide +kernel
theorem dX12_sit_133 : decode prog_14_method_117_code 133 = .ok (.iload 5, 2) := by decide +kernel
theorem dX12_sit_135 : decode prog_14_method_117_code 135 = .ok (.iaload, 1) := by decide +kernel
theorem dX12_sit_136 : decode prog_14_method_117_code 136 = .ok (.aload_n 0, 1) := by decide +kernel
theorem dX12_sit_137 : decode prog_14_method_117_code 137 = .ok (.getfield 251, 3) := by decide +kernel
theorem dX12_sit_140 : decode prog_14_method_117_code 140 = .ok (.iload_n 3, 1) := by decide +kernel
theorem dX12_sit_141 : decode prog_14_method_117_code 141 = .ok (.iaload, 1) := by decide +kernel
theorem dX12_sit_142 : decode prog_14_method_117_code 142 = .ok (.if_icmp .gt 35, 3) := by decide +kernel
theorem dX12_sit_145 : decode prog_14_method_117_code 145 = .ok (.aload_n 0, 1) := by decide +kernel
theorem dX12_sit_146 : decode prog_14_method_117_code 146 = .ok (.getfield 251, 3) := by decide +kernel
theorem dX12_sit_149 : decode prog_14_method_117_code 149 = .ok (.iload 5, 2) := by decide +kernel
theorem dX12_sit_151 : decode prog_14_method_117_code 151 = .ok (.iaload, 1) := by decide +kernel
theorem dX12_sit_152 : decode prog_14_method_117_code 152 = .ok (.aload_n 0, 1) := by decide +kernel
theorem dX12_sit_153 : decode prog_14_method_117_code 153 = .ok (.getfield 251, 3) := by decide +kernel
theorem dX12_sit_156 : decode prog_14_method_117_code 156 = .ok (.iload_n 3, 1) := by decide +kernel
theorem dX12_sit_157 : decode prog_14_method_117_code 157 = .ok (.iaload, 1) := by decide +kernel
theorem dX12_sit_158 : decode prog_14_method_117_code 158 = .ok (.if_icmp .ne 23, 3) := by decide +kernel
theorem dX12_sit_161 : decode prog_14_method_117_code 161 = .ok (.aload_n 0, 1) := by decide +kernel
theorem dX12_sit_162 : decode prog_14_method_117_code 162 = .ok (.getfield 254, 3) := by decide +kernel
theorem dX12_sit_165 : decode prog_14_method_117_code 165 = .ok (.iload 5, 2) := by decide +kernel
theorem dX12_sit_167 : decode prog_14_method_117_code 167 = .ok (.iaload, 1) := by decide +kernel
theorem dX12_sit_168 : decode prog_14_method_117_code 168 = .ok (.aload_n 0, 1) := by decide +kernel
theorem dX12_sit_169 : decode prog_14_method_117_code 169 = .ok (.getfield 254, 3) := by decide +kernel
theorem dX12_sit_172 : decode prog_14_method_117_code 172 = .ok (.iload_n 3, 1) := by decide +kernel
theorem dX12_sit_173 : decode prog_14_method_117_code 173 = .ok (.iaload, 1) := by decide +kernel
theorem dX12_sit_174 : decode prog_14_method_117_code 174 = .ok (.if_icmp .gt 7, 3) := by decide +kernel
theorem dX12_sit_177 : decode prog_14_method_117_code 177 = .ok (.iconst 1, 1) := by decide +kernel
theorem dX12_sit_178 : decode prog_14_method_117_code 178 = .ok (.goto 4, 3) := by decide +kernel
theorem dX12_sit_181 : decode prog_14_method_117_code 181 = .ok (.iconst 0, 1) := by decide +kernel
theorem dX12_sit_182 : decode prog_14_method_117_code 182 = .ok (.istore 7, 2) := by decide +kernel
theorem dX12_sit_184 : decode prog_14_method_117_code 184 = .ok (.iload 6, 2) := by decide +kernel
theorem dX12_sit_186 : decode prog_14_method_117_code 186 = .ok (.iconst 3, 1) := by decide +kernel
theorem dX12_sit_187 : decode prog_14_method_117_code 187 = .ok (.if_icmp .eq 18, 3) := by decide +kernel
theorem dX12_sit_190 : decode prog_14_method_117_code 190 = .ok (.iload 7, 2) := by decide +kernel
theorem dX12_sit_192 : decode prog_14_method_117_code 192 = .ok (.ifCond .eq 6, 3) := by decide +kernel
theorem dX12_sit_195 : decode prog_14_method_117_code 195 = .ok (.goto 10, 3) := by decide +kernel
theorem dX12_sit_198 : decode prog_14_method_117_code 198 = .ok (.iload 5, 2) := by decide +kernel
theorem dX12_sit_200 : decode prog_14_method_117_code 200 = .ok (.istore_n 3, 1) := by decide +kernel
theorem dX12_sit_201 : decode prog_14_method_117_code 201 = .ok (.iload 6, 2) := by decide +kernel
theorem dX12_sit_203 : decode prog_14_method_117_code 203 = .ok (.istore 4, 2) := by decide +kernel
theorem dX12_sit_205 : decode prog_14_method_117_code 205 = .ok (.iinc 5 1, 3) := by decide +kernel
theorem dX12_sit_208 : decode prog_14_method_117_code 208 = .ok (.goto (-174), 3) := by decide +kernel
theorem dX12_sit_211 : decode prog_14_method_117_code 211 = .ok (.iload_n 3, 1) := by decide +kernel
theorem dX12_sit_212 : decode prog_14_method_117_code 212 = .ok (.iconst (-1), 1) := by decide +kernel
theorem dX12_sit_213 : decode prog_14_method_117_code 213 = .ok (.if_icmp .ne 5, 3) := by decide +kernel
theorem dX12_sit_216 : decode prog_14_method_117_code 216 = .ok (.iload_n 2, 1) := by decide +kernel
theorem dX12_sit_217 : decode prog_14_method_117_code 217 = .ok (.ireturn, 1) := by decide +kernel
theorem dX12_sit_218 : decode prog_14_method_117_code 218 = .ok (.aload_n 0, 1) := by decide +kernel
theorem dX12_sit_219 : decode prog_14_method_117_code 219 = .ok (.getfield 236, 3) := by decide +kernel
theorem dX12_sit_222 : decode prog_14_method_117_code 222 = .ok (.iload_n 3, 1) := by decide +kernel
theorem dX12_sit_223 : decode prog_14_method_117_code 223 = .ok (.iload 4, 2) := by decide +kernel
theorem dX12_sit_225 : decode prog_14_method_117_code 225 = .ok (.iastore, 1) := by decide +kernel
theorem dX12_sit_226 : decode prog_14_method_117_code 226 = .ok (.aload_n 0, 1) := by decide +kernel
theorem dX12_sit_227 : decode prog_14_method_117_code 227 = .ok (.getfield 242, 3) := by decide +kernel
theorem dX12_sit_230 : decode prog_14_method_117_code 230 = .ok (.iload_n 1, 1) := by decide +kernel
theorem dX12_sit_231 : decode prog_14_method_117_code 231 = .ok (.iload_n 3, 1) := by decide +kernel
theorem dX12_sit_232 : decode prog_14_method_117_code 232 = .ok (.iastore, 1) := by decide +kernel
theorem dX12_sit_233 : decode prog_14_method_117_code 233 = .ok (.aload_n 0, 1) := by decide +kernel
theorem dX12_sit_234 : decode prog_14_method_117_code 234 = .ok (.getfield 245, 3) := by decide +kernel
theorem dX12_sit_237 : decode prog_14_method_117_code 237 = .ok (.iload_n 1, 1) := by decide +kernel
theorem dX12_sit_238 : decode prog_14_method_117_code 238 = .ok (.aload_n 0, 1) := by decide +kernel
theorem dX12_sit_239 : decode prog_14_method_117_code 239 = .ok (.getfield 344, 3) := by decide +kernel
theorem dX12_sit_242 : decode prog_14_method_117_code 242 = .ok (.iastore, 1) := by decide +kernel
theorem dX12_sit_243 : decode prog_14_method_117_code 243 = .ok (.aload_n 0, 1) := by decide +kernel
theorem dX12_sit_244 : decode prog_14_method_117_code 244 = .ok (.getfield 248, 3) := by decide +kernel
theorem dX12_sit_247 : decode prog_14_method_117_code 247 = .ok (.iload_n 1, 1) := by decide +kernel
theorem dX12_sit_248 : decode prog_14_method_117_code 248 = .ok (.aload_n 0, 1) := by decide +kernel
theorem dX12_sit_249 : decode prog_14_method_117_code 249 = .ok (.aload_n 0, 1) := by decide +kernel
theorem dX12_sit_250 : decode prog_14_method_117_code 250 = .ok (.getfield 344, 3) := by decide +kernel
theorem dX12_sit_253 : decode prog_14_method_117_code 253 = .ok (.bipush 6, 2) := by decide +kernel
theorem dX12_sit_255 : decode prog_14_method_117_code 255 = .ok (.invokevirtual 493, 3) := by decide +kernel
theorem dX12_sit_258 : decode prog_14_method_117_code 258 = .ok (.iastore, 1) := by decide +kernel
theorem dX12_sit_259 : decode prog_14_method_117_code 259 = .ok (.iload_n 2, 1) := by decide +kernel
theorem dX12_sit_260 : decode prog_14_method_117_code 260 = .ok (.ireturn, 1) := by decide +kernel
abbrev A_X12_sit_34 (l : Launch) (E : bE) (Q : (Int × bM) → Prop) (v1 : Int) : (Int × Int × Int × Int × bM) → Prop := (fun t : Int × Int × Int × Int × bM => V l E xX12_sit (0, 0) 34 [(0, bR 11), (1, bI v1), (2, bI (t.1)), (3, bI (t.2.1)), (4, bI (t.2.2.1)), (5, bI (t.2.2.2.1))] [] t.2.2.2.2 (b_pI Q))
abbrev X_X12_sit_34 (l : Launch) (E : bE) (Q : (Int × bM) → Prop) (v1 : Int) : (Int × Int × Int × bM) → Prop := (fun t : Int × Int × Int × bM => V l E xX12_sit (0, 0) 211 [(0, bR 11), (1, bI v1), (2, bI (t.1)), (3, bI (t.2.1)), (4, bI (t.2.2.1))] [] t.2.2.2 (b_pI Q))
noncomputable def F_X12_sit_b182 (v1 : Int) (v2 : Int) (v3 : Int) (v4 : Int) (v5 : Int) (v6 : Int) (u0 : Int) (M : bM) : Option ((Int × Int × Int × Int × bM) ⊕ (Int × Int × Int × bM)) :=
  if v6 = 3 then (b_g (b_i32 (v5 + 1)) (some (.inl (v2, v3, v4, (v5 + 1), M)))) else (if u0 = 0 then (b_g (b_i32 (v5 + 1)) (some (.inl (v2, v5, v6, (v5 + 1), M)))) else (b_g (b_i32 (v5 + 1)) (some (.inl (v2, v3, v4, (v5 + 1), M)))))
theorem t_X12_sit_b182 {l : Launch} {E : bE} {Q : (Int × bM) → Prop} {v1 : Int} {v2 : Int} {v3 : Int} {v4 : Int} {v5 : Int} {v6 : Int} {u0 : Int} {M : bM} (h : b_wp (F_X12_sit_b182 v1 v2 v3 v4 v5 v6 u0 M) (Sum.elim (A_X12_sit_34 l E Q v1) (X_X12_sit_34 l E Q v1))) : V l E xX12_sit (0, 0) 182 [(0, bR 11), (1, bI v1), (2, bI v2), (3, bI v3), (4, bI v4), (5, bI v5), (6, bI v6)] [bI u0] M (b_pI Q) := by
  unfold F_X12_sit_b182 at h
  refine v_istore (i := 7) (ls' := [(7, bI _), (0, bR _), (1, bI _), (2, bI _), (3, bI _), (4, bI _), (5, bI _), (6, bI _)]) (by decide) dX12_sit_182 rfl ?_
  refine v_iload (i := 6) 7 rfl dX12_sit_184 ?_
  refine v_iconst ⟨by decide, by decide⟩ dX12_sit_186 ?_
  refine v_icmp_eq (tgt := 205) dX12_sit_187 (by decide) (fun c22 => ?_) (fun c22 => ?_)
  · replace h := b_wp_t c22 h
    obtain ⟨g23, h⟩ := b_wp_g h
    refine v_iincN (ls' := [(5, bI _), (7, bI _), (0, bR _), (1, bI _), (2, bI _), (3, bI _), (4, bI _), (6, bI _)]) 6 rfl (by decide) g23 dX12_sit_205 rfl ?_
    refine v_goto (tgt := 34) dX12_sit_208 (by decide) ?_
    refine v_sub (ls2 := [(0, bR _), (1, bI _), (2, bI _), (3, bI _), (4, bI _), (5, bI _)]) [2, 3, 4, 5, 6, 0] rfl ?_
    exact h
  · replace h := b_wp_f c22 h
    refine v_iload (i := 7) 0 rfl dX12_sit_190 ?_
    refine v_if_eq (tgt := 198) dX12_sit_192 (by decide) (fun c24 => ?_) (fun c24 => ?_)
    · replace h := b_wp_t c24 h
      obtain ⟨g25, h⟩ := b_wp_g h
      refine v_iload (i := 5) 6 rfl dX12_sit_198 ?_
      refine v_istore_n (g := 3) (i := 3) (ls' := [(3, bI _), (7, bI _), (0, bR _), (1, bI _), (2, bI _), (4, bI _), (5, bI _), (6, bI _)]) rfl (by decide) dX12_sit_200 rfl ?_
      refine v_iload (i := 6) 7 rfl dX12_sit_201 ?_
      refine v_istore (i := 4) (ls' := [(4, bI _), (3, bI _), (7, bI _), (0, bR _), (1, bI _), (2, bI _), (5, bI _), (6, bI _)]) (by decide) dX12_sit_203 rfl ?_
      refine v_iincN (ls' := [(5, bI _), (4, bI _), (3, bI _), (7, bI _), (0, bR _), (1, bI _), (2, bI _), (6, bI _)]) 6 rfl (by decide) g25 dX12_sit_205 rfl ?_
      refine v_goto (tgt := 34) dX12_sit_208 (by decide) ?_
      refine v_sub (ls2 := [(0, bR _), (1, bI _), (2, bI _), (3, bI _), (4, bI _), (5, bI _)]) [4, 5, 6, 2, 1, 0] rfl ?_
      exact h
    · replace h := b_wp_f c24 h
      obtain ⟨g26, h⟩ := b_wp_g h
      refine v_goto (tgt := 205) dX12_sit_195 (by decide) ?_
      refine v_iincN (ls' := [(5, bI _), (7, bI _), (0, bR _), (1, bI _), (2, bI _), (3, bI _), (4, bI _), (6, bI _)]) 6 rfl (by decide) g26 dX12_sit_205 rfl ?_
      refine v_goto (tgt := 34) dX12_sit_208 (by decide) ?_
      refine v_sub (ls2 := [(0, bR _), (1, bI _), (2, bI _), (3, bI _), (4, bI _), (5, bI _)]) [2, 3, 4, 5, 6, 0] rfl ?_
      exact h
noncomputable def F_X12_sit_b181 (v1 : Int) (v2 : Int) (v3 : Int) (v4 : Int) (v5 : Int) (v6 : Int) (M : bM) : Option ((Int × Int × Int × Int × bM) ⊕ (Int × Int × Int × bM)) :=
  F_X12_sit_b182 v1 v2 v3 v4 v5 v6 0 M
theorem t_X12_sit_b181 {l : Launch} {E : bE} {Q : (Int × bM) → Prop} {v1 : Int} {v2 : Int} {v3 : Int} {v4 : Int} {v5 : Int} {v6 : Int} {M : bM} (h : b_wp (F_X12_sit_b181 v1 v2 v3 v4 v5 v6 M) (Sum.elim (A_X12_sit_34 l E Q v1) (X_X12_sit_34 l E Q v1))) : V l E xX12_sit (0, 0) 181 [(0, bR 11), (1, bI v1), (2, bI v2), (3, bI v3), (4, bI v4), (5, bI v5), (6, bI v6)] [] M (b_pI Q) := by
  unfold F_X12_sit_b181 at h
  refine v_iconst ⟨by decide, by decide⟩ dX12_sit_181 ?_
  exact t_X12_sit_b182 h
noncomputable def F_X12_sit_b177 (v1 : Int) (v2 : Int) (v3 : Int) (v4 : Int) (v5 : Int) (v6 : Int) (M : bM) : Option ((Int × Int × Int × Int × bM) ⊕ (Int × Int × Int × bM)) :=
  F_X12_sit_b182 v1 v2 v3 v4 v5 v6 1 M
theorem t_X12_sit_b177 {l : Launch} {E : bE} {Q : (Int × bM) → Prop} {v1 : Int} {v2 : Int} {v3 : Int} {v4 : Int} {v5 : Int} {v6 : Int} {M : bM} (h : b_wp (F_X12_sit_b177 v1 v2 v3 v4 v5 v6 M) (Sum.elim (A_X12_sit_34 l E Q v1) (X_X12_sit_34 l E Q v1))) : V l E xX12_sit (0, 0) 177 [(0, bR 11), (1, bI v1), (2, bI v2), (3, bI v3), (4, bI v4), (5, bI v5), (6, bI v6)] [] M (b_pI Q) := by
  unfold F_X12_sit_b177 at h
  refine v_iconst ⟨by decide, by decide⟩ dX12_sit_177 ?_
  refine v_goto (tgt := 182) dX12_sit_178 (by decide) ?_
  exact t_X12_sit_b182 h
noncomputable def F_X12_sit_s34 (v1 : Int) (v2 : Int) (v3 : Int) (v4 : Int) (v5 : Int) (M : bM) : Option ((Int × Int × Int × Int × bM) ⊕ (Int × Int × Int × bM)) :=
  if (M 11 106) ≤ v5 then (some (.inr (v2, v3, v4, M))) else (b_g (0 ≤ v5 ∧ v5 < 30) (if (M 232 v5) = v1 then (b_g (0 ≤ v5 ∧ v5 < 30) (if (M 234 v5) = 0 then (b_g ((0 ≤ v5 ∧ v5 < 30) ∧ (b_i32 ((M 11 11) - (M 233 v5)))) (b_bind (F_X12_ruleOn (M 11 11) 4 M) (fun x14 => if x14 ≤ ((M 11 11) - (M 233 v5)) then (b_g (b_i32 (v2 + 1)) (b_bind (F_X12_worthOf v5 M) (fun t => b_two t (fun x17 M18 => b_g (0 ≤ v5 ∧ v5 < 30) (b_let (b_up M18 234 v5 3) (fun M20 => if v3 = (-1) then (F_X12_sit_b181 v1 (v2 + 1) v3 v4 v5 x17 M20) else (if v4 < x17 then (F_X12_sit_b177 v1 (v2 + 1) v3 v4 v5 x17 M20) else (if x17 = v4 then (b_g ((0 ≤ v5 ∧ v5 < 30) ∧ (0 ≤ v3 ∧ v3 < 30)) (if (M20 239 v3) < (M20 239 v5) then (F_X12_sit_b177 v1 (v2 + 1) v3 v4 v5 x17 M20) else (b_g ((0 ≤ v5 ∧ v5 < 30) ∧ (0 ≤ v3 ∧ v3 < 30)) (if (M20 239 v5) = (M20 239 v3) then (b_g ((0 ≤ v5 ∧ v5 < 30) ∧ (0 ≤ v3 ∧ v3 < 30)) (if (M20 240 v3) < (M20 240 v5) then (F_X12_sit_b181 v1 (v2 + 1) v3 v4 v5 x17 M20) else (F_X12_sit_b177 v1 (v2 + 1) v3 v4 v5 x17 M20))) else (F_X12_sit_b181 v1 (v2 + 1) v3 v4 v5 x17 M20))))) else (F_X12_sit_b181 v1 (v2 + 1) v3 v4 v5 x17 M20))))))))) else (b_g (b_i32 (v5 + 1)) (some (.inl (v2, v3, v4, (v5 + 1), M))))))) else (b_g (b_i32 (v5 + 1)) (some (.inl (v2, v3, v4, (v5 + 1), M)))))) else (b_g (b_i32 (v5 + 1)) (some (.inl (v2, v3, v4, (v5 + 1), M))))))
theorem t_X12_sit_s34 {l : Launch} {E : bE} {Q : (Int × bM) → Prop} {v1 : Int} {v2 : Int} {v3 : Int} {v4 : Int} {v5 : Int} {M : bM} (h : b_wp (F_X12_sit_s34 v1 v2 v3 v4 v5 M) (Sum.elim (A_X12_sit_34 l E Q v1) (X_X12_sit_34 l E Q v1))) : V l E xX12_sit (0, 0) 34 [(0, bR 11), (1, bI v1), (2, bI v2), (3, bI v3), (4, bI v4), (5, bI v5)] [] M (b_pI Q) := by
  unfold F_X12_sit_s34 at h
  refine v_iload (i := 5) 5 rfl dX12_sit_34 ?_
  refine v_aload_n (f := 0) 0 rfl dX12_sit_36 ?_
  refine v_getI (kf := 106) (kz := 106) rfl kd_11 rfl ⟨by decide, by decide⟩ rfl wf_12_635 dX12_sit_37 ?_
  refine v_icmp_ge (tgt := 211) dX12_sit_40 (by decide) (fun c5 => ?_) (fun c5 => ?_)
  · replace h := b_wp_t c5 h
    refine v_sub (ls2 := [(0, bR _), (1, bI _), (2, bI _), (3, bI _), (4, bI _)]) [0, 1, 2, 3, 4] rfl ?_
    exact h
  · replace h := b_wp_f c5 h
    obtain ⟨g6, h⟩ := b_wp_g h
    refine v_aload_n (f := 0) 0 rfl dX12_sit_43 ?_
    refine v_getR (kf := 109) (kz := 109) rfl kd_11 rfl ⟨by decide, by decide⟩ rfl wf_12_230 dX12_sit_44 ?_
    refine v_iload (i := 5) 5 rfl dX12_sit_47 ?_
    refine v_iaload kd_232 g6 (by decide) dX12_sit_49 ?_
    refine v_iload_n (f := 1) 1 rfl dX12_sit_50 ?_
    refine v_icmp_ne (tgt := 205) dX12_sit_51 (by decide) (fun c7 => ?_) (fun c7 => ?_)
    · replace h := b_wp_f c7 h
      obtain ⟨g8, h⟩ := b_wp_g h
      refine v_iincN (ls' := [(5, bI _), (0, bR _), (1, bI _), (2, bI _), (3, bI _), (4, bI _)]) 5 rfl (by decide) g8 dX12_sit_205 rfl ?_
      refine v_goto (tgt := 34) dX12_sit_208 (by decide) ?_
      refine v_sub (ls2 := [(0, bR _), (1, bI _), (2, bI _), (3, bI _), (4, bI _), (5, bI _)]) [1, 2, 3, 4, 5, 0] rfl ?_
      exact h
    · replace h := b_wp_t c7 h
      obtain ⟨g9, h⟩ := b_wp_g h
      refine v_aload_n (f := 0) 0 rfl dX12_sit_54 ?_
      refine v_getR (kf := 111) (kz := 111) rfl kd_11 rfl ⟨by decide, by decide⟩ rfl wf_12_236 dX12_sit_55 ?_
      refine v_iload (i := 5) 5 rfl dX12_sit_58 ?_
      refine v_iaload kd_234 g9 (by decide) dX12_sit_60 ?_
      refine v_if_ne (tgt := 205) dX12_sit_61 (by decide) (fun c10 => ?_) (fun c10 => ?_)
      · replace h := b_wp_f c10 h
        obtain ⟨g11, h⟩ := b_wp_g h
        refine v_iincN (ls' := [(5, bI _), (0, bR _), (1, bI _), (2, bI _), (3, bI _), (4, bI _)]) 5 rfl (by decide) g11 dX12_sit_205 rfl ?_
        refine v_goto (tgt := 34) dX12_sit_208 (by decide) ?_
        refine v_sub (ls2 := [(0, bR _), (1, bI _), (2, bI _), (3, bI _), (4, bI _), (5, bI _)]) [1, 2, 3, 4, 5, 0] rfl ?_
        exact h
      · replace h := b_wp_t c10 h
        obtain ⟨⟨g12, g13⟩, h⟩ := b_wp_g h
        refine v_aload_n (f := 0) 0 rfl dX12_sit_64 ?_
        refine v_getI (kf := 11) (kz := 11) rfl kd_11 rfl ⟨by decide, by decide⟩ rfl wf_12_344 dX12_sit_65 ?_
        refine v_aload_n (f := 0) 0 rfl dX12_sit_68 ?_
        refine v_getR (kf := 110) (kz := 110) rfl kd_11 rfl ⟨by decide, by decide⟩ rfl wf_12_233 dX12_sit_69 ?_
        refine v_iload (i := 5) 5 rfl dX12_sit_72 ?_
        refine v_iaload kd_233 g12 (by decide) dX12_sit_74 ?_
        refine v_isubN g13 dX12_sit_75 ?_
        refine v_aload_n (f := 0) 0 rfl dX12_sit_76 ?_
        refine v_aload_n (f := 0) 0 rfl dX12_sit_77 ?_
        refine v_getI (kf := 11) (kz := 11) rfl kd_11 rfl ⟨by decide, by decide⟩ rfl wf_12_344 dX12_sit_78 ?_
        refine v_iconst ⟨by decide, by decide⟩ dX12_sit_81 ?_
        refine v_cVIp (nA := 2) (As := [bI _, bI _]) (ix := 493) (cf_X12_ruleOn (b_wp_b h)) rfl kd_11 rfl rfl wc_X12_ruleOn wm_12_493 wi_X12_ruleOn ws_X12_ruleOn wn_12 ⟨by decide, by decide, by decide⟩ rfl ⟨by decide, by decide⟩ ⟨by decide, by decide⟩ (Nat.le_of_ble_eq_true rfl) dX12_sit_82 (fun x14 h => ?_)
        refine v_icmp_ge (tgt := 91) dX12_sit_85 (by decide) (fun c15 => ?_) (fun c15 => ?_)
        · replace h := b_wp_t c15 h
          obtain ⟨g16, h⟩ := b_wp_g h
          refine v_iincN (ls' := [(2, bI _), (0, bR _), (1, bI _), (3, bI _), (4, bI _), (5, bI _)]) 2 rfl (by decide) g16 dX12_sit_91 rfl ?_
          refine v_aload_n (f := 0) 1 rfl dX12_sit_94 ?_
          refine v_iload (i := 5) 5 rfl dX12_sit_95 ?_
          refine v_cVI (nA := 1) (As := [bI _]) (ix := 638) (cf_X12_worthOf (b_wp_b h)) rfl kd_11 rfl rfl wc_X12_worthOf wm_12_638 wi_X12_worthOf ws_X12_worthOf wn_12 ⟨by decide, by decide, by decide⟩ rfl ⟨by decide, by decide⟩ ⟨by decide, by decide⟩ (Nat.le_of_ble_eq_true rfl) dX12_sit_97 (fun x17 M18 h => ?_)
          replace h := b_wp_two h
          obtain ⟨g19, h⟩ := b_wp_g h
          refine v_istore (i := 6) (ls' := [(6, bI _), (2, bI _), (0, bR _), (1, bI _), (3, bI _), (4, bI _), (5, bI _)]) (by decide) dX12_sit_100 rfl ?_
          refine v_aload_n (f := 0) 2 rfl dX12_sit_102 ?_
          refine v_getR (kf := 111) (kz := 111) rfl kd_11 rfl ⟨by decide, by decide⟩ rfl wf_12_236 dX12_sit_103 ?_
          refine v_iload (i := 5) 6 rfl dX12_sit_106 ?_
          refine v_iconst ⟨by decide, by decide⟩ dX12_sit_108 ?_
          refine v_iastore kd_234 g19 (by decide) dX12_sit_109 ?_
          replace h := b_wp_l h
          refine v_iload_n (f := 3) 4 rfl dX12_sit_110 ?_
          refine v_iconst ⟨by decide, by decide⟩ dX12_sit_111 ?_
          refine v_icmp_eq (tgt := 181) dX12_sit_112 (by decide) (fun c21 => ?_) (fun c21 => ?_)
          · replace h := b_wp_t c21 h
            refine v_sub (ls2 := [(0, bR _), (1, bI _), (2, bI _), (3, bI _), (4, bI _), (5, bI _), (6, bI _)]) [2, 3, 1, 4, 5, 6, 0] rfl ?_
            exact t_X12_sit_b181 h
          · replace h := b_wp_f c21 h
            refine v_iload (i := 6) 0 rfl dX12_sit_115 ?_
            refine v_iload (i := 4) 5 rfl dX12_sit_117 ?_
            refine v_icmp_gt (tgt := 177) dX12_sit_119 (by decide) (fun c27 => ?_) (fun c27 => ?_)
            · replace h := b_wp_t c27 h
              refine v_sub (ls2 := [(0, bR _), (1, bI _), (2, bI _), (3, bI _), (4, bI _), (5, bI _), (6, bI _)]) [2, 3, 1, 4, 5, 6, 0] rfl ?_
              exact t_X12_sit_b177 h
            · replace h := b_wp_f c27 h
              refine v_iload (i := 6) 0 rfl dX12_sit_122 ?_
              refine v_iload (i := 4) 5 rfl dX12_sit_124 ?_
              refine v_icmp_ne (tgt := 181) dX12_sit_126 (by decide) (fun c28 => ?_) (fun c28 => ?_)
              · replace h := b_wp_f c28 h
                refine v_sub (ls2 := [(0, bR _), (1, bI _), (2, bI _), (3, bI _), (4, bI _), (5, bI _), (6, bI _)]) [2, 3, 1, 4, 5, 6, 0] rfl ?_
                exact t_X12_sit_b181 h
              · replace h := b_wp_t c28 h
                obtain ⟨⟨g29, g30⟩, h⟩ := b_wp_g h
                refine v_aload_n (f := 0) 2 rfl dX12_sit_129 ?_
                refine v_getR (kf := 116) (kz := 116) rfl kd_11 rfl ⟨by decide, by decide⟩ rfl wf_12_251 dX12_sit_130 ?_
                refine v_iload (i := 5) 6 rfl dX12_sit_133 ?_
                refine v_iaload kd_239 g29 (by decide) dX12_sit_135 ?_
                refine v_aload_n (f := 0) 2 rfl dX12_sit_136 ?_
                refine v_getR (kf := 116) (kz := 116) rfl kd_11 rfl ⟨by decide, by decide⟩ rfl wf_12_251 dX12_sit_137 ?_
                refine v_iload_n (f := 3) 4 rfl dX12_sit_140 ?_
                refine v_iaload kd_239 g30 (by decide) dX12_sit_141 ?_
                refine v_icmp_gt (tgt := 177) dX12_sit_142 (by decide) (fun c31 => ?_) (fun c31 => ?_)
                · replace h := b_wp_t c31 h
                  refine v_sub (ls2 := [(0, bR _), (1, bI _), (2, bI _), (3, bI _), (4, bI _), (5, bI _), (6, bI _)]) [2, 3, 1, 4, 5, 6, 0] rfl ?_
                  exact t_X12_sit_b177 h
                · replace h := b_wp_f c31 h
                  obtain ⟨⟨g32, g33⟩, h⟩ := b_wp_g h
                  refine v_aload_n (f := 0) 2 rfl dX12_sit_145 ?_
                  refine v_getR (kf := 116) (kz := 116) rfl kd_11 rfl ⟨by decide, by decide⟩ rfl wf_12_251 dX12_sit_146 ?_
                  refine v_iload (i := 5) 6 rfl dX12_sit_149 ?_
                  refine v_iaload kd_239 g32 (by decide) dX12_sit_151 ?_
                  refine v_aload_n (f := 0) 2 rfl dX12_sit_152 ?_
                  refine v_getR (kf := 116) (kz := 116) rfl kd_11 rfl ⟨by decide, by decide⟩ rfl wf_12_251 dX12_sit_153 ?_
                  refine v_iload_n (f := 3) 4 rfl dX12_sit_156 ?_
                  refine v_iaload kd_239 g33 (by decide) dX12_sit_157 ?_
                  refine v_icmp_ne (tgt := 181) dX12_sit_158 (by decide) (fun c34 => ?_) (fun c34 => ?_)
                  · replace h := b_wp_f c34 h
                    refine v_sub (ls2 := [(0, bR _), (1, bI _), (2, bI _), (3, bI _), (4, bI _), (5, bI _), (6, bI _)]) [2, 3, 1, 4, 5, 6, 0] rfl ?_
                    exact t_X12_sit_b181 h
                  · replace h := b_wp_t c34 h
                    obtain ⟨⟨g35, g36⟩, h⟩ := b_wp_g h
                    refine v_aload_n (f := 0) 2 rfl dX12_sit_161 ?_
                    refine v_getR (kf := 117) (kz := 117) rfl kd_11 rfl ⟨by decide, by decide⟩ rfl wf_12_254 dX12_sit_162 ?_
                    refine v_iload (i := 5) 6 rfl dX12_sit_165 ?_
                    refine v_iaload kd_240 g35 (by decide) dX12_sit_167 ?_
                    refine v_aload_n (f := 0) 2 rfl dX12_sit_168 ?_
                    refine v_getR (kf := 117) (kz := 117) rfl kd_11 rfl ⟨by decide, by decide⟩ rfl wf_12_254 dX12_sit_169 ?_
                    refine v_iload_n (f := 3) 4 rfl dX12_sit_172 ?_
                    refine v_iaload kd_240 g36 (by decide) dX12_sit_173 ?_
                    refine v_icmp_gt (tgt := 181) dX12_sit_174 (by decide) (fun c37 => ?_) (fun c37 => ?_)
                    · replace h := b_wp_t c37 h
                      refine v_sub (ls2 := [(0, bR _), (1, bI _), (2, bI _), (3, bI _), (4, bI _), (5, bI _), (6, bI _)]) [2, 3, 1, 4, 5, 6, 0] rfl ?_
                      exact t_X12_sit_b181 h
                    · replace h := b_wp_f c37 h
                      refine v_sub (ls2 := [(0, bR _), (1, bI _), (2, bI _), (3, bI _), (4, bI _), (5, bI _), (6, bI _)]) [2, 3, 1, 4, 5, 6, 0] rfl ?_
                      exact t_X12_sit_b177 h
        · replace h := b_wp_f c15 h
          obtain ⟨g38, h⟩ := b_wp_g h
          refine v_goto (tgt := 205) dX12_sit_88 (by decide) ?_
          refine v_iincN (ls' := [(5, bI _), (0, bR _), (1, bI _), (2, bI _), (3, bI _), (4, bI _)]) 5 rfl (by decide) g38 dX12_sit_205 rfl ?_
          refine v_goto (tgt := 34) dX12_sit_208 (by decide) ?_
          refine v_sub (ls2 := [(0, bR _), (1, bI _), (2, bI _), (3, bI _), (4, bI _), (5, bI _)]) [1, 2, 3, 4, 5, 0] rfl ?_
          exact h
theorem l_X12_sit_34 {l : Launch} {E : bE} {Q : (Int × bM) → Prop} {v1 : Int} {s : Int × Int × Int × Int × bM} (h : b_wp (b_loop (fun t => F_X12_sit_s34 v1 t.1 t.2.1 t.2.2.1 t.2.2.2.1 t.2.2.2.2) s) (X_X12_sit_34 l E Q v1)) : A_X12_sit_34 l E Q v1 s := b_loop_wp (fun t h => t_X12_sit_s34 h) s h
noncomputable def F_X12_sit_b211 (v1 : Int) (v2 : Int) (v3 : Int) (v4 : Int) (M : bM) : Option (Int × bM) :=
  if v3 = (-1) then (some (v2, M)) else (b_g (0 ≤ v3 ∧ v3 < 30) (b_let (b_up M 234 v3 v4) (fun M41 => b_g (0 ≤ v1 ∧ v1 < 60) (b_let (b_up M41 236 v1 v3) (fun M43 => b_g (0 ≤ v1 ∧ v1 < 60) (b_let (b_up M43 237 v1 (M43 11 11)) (fun M45 => b_bind (F_X12_ruleOn (M45 11 11) 6 M45) (fun x46 => b_g (0 ≤ v1 ∧ v1 < 60) (b_let (b_up M45 238 v1 x46) (fun M48 => some (v2, M48)))))))))))
theorem t_X12_sit_b211 {l : Launch} {E : bE} {Q : (Int × bM) → Prop} {v1 : Int} {v2 : Int} {v3 : Int} {v4 : Int} {M : bM} (h : b_wp (F_X12_sit_b211 v1 v2 v3 v4 M) (Q)) : V l E xX12_sit (0, 0) 211 [(0, bR 11), (1, bI v1), (2, bI v2), (3, bI v3), (4, bI v4)] [] M (b_pI Q) := by
  unfold F_X12_sit_b211 at h
  refine v_iload_n (f := 3) 3 rfl dX12_sit_211 ?_
  refine v_iconst ⟨by decide, by decide⟩ dX12_sit_212 ?_
  refine v_icmp_ne (tgt := 218) dX12_sit_213 (by decide) (fun c39 => ?_) (fun c39 => ?_)
  · replace h := b_wp_f c39 h
    obtain ⟨g40, h⟩ := b_wp_g h
    refine v_aload_n (f := 0) 0 rfl dX12_sit_218 ?_
    refine v_getR (kf := 111) (kz := 111) rfl kd_11 rfl ⟨by decide, by decide⟩ rfl wf_12_236 dX12_sit_219 ?_
    refine v_iload_n (f := 3) 3 rfl dX12_sit_222 ?_
    refine v_iload (i := 4) 4 rfl dX12_sit_223 ?_
    refine v_iastore kd_234 g40 (by decide) dX12_sit_225 ?_
    replace h := b_wp_l h
    obtain ⟨g42, h⟩ := b_wp_g h
    refine v_aload_n (f := 0) 0 rfl dX12_sit_226 ?_
    refine v_getR (kf := 113) (kz := 113) rfl kd_11 rfl ⟨by decide, by decide⟩ rfl wf_12_242 dX12_sit_227 ?_
    refine v_iload_n (f := 1) 1 rfl dX12_sit_230 ?_
    refine v_iload_n (f := 3) 3 rfl dX12_sit_231 ?_
    refine v_iastore kd_236 g42 (by decide) dX12_sit_232 ?_
    replace h := b_wp_l h
    obtain ⟨g44, h⟩ := b_wp_g h
    refine v_aload_n (f := 0) 0 rfl dX12_sit_233 ?_
    refine v_getR (kf := 114) (kz := 114) rfl kd_11 rfl ⟨by decide, by decide⟩ rfl wf_12_245 dX12_sit_234 ?_
    refine v_iload_n (f := 1) 1 rfl dX12_sit_237 ?_
    refine v_aload_n (f := 0) 0 rfl dX12_sit_238 ?_
    refine v_getI (kf := 11) (kz := 11) rfl kd_11 rfl ⟨by decide, by decide⟩ rfl wf_12_344 dX12_sit_239 ?_
    refine v_iastore kd_237 g44 (by decide) dX12_sit_242 ?_
    replace h := b_wp_l h
    refine v_aload_n (f := 0) 0 rfl dX12_sit_243 ?_
    refine v_getR (kf := 115) (kz := 115) rfl kd_11 rfl ⟨by decide, by decide⟩ rfl wf_12_248 dX12_sit_244 ?_
    refine v_iload_n (f := 1) 1 rfl dX12_sit_247 ?_
    refine v_aload_n (f := 0) 0 rfl dX12_sit_248 ?_
    refine v_aload_n (f := 0) 0 rfl dX12_sit_249 ?_
    refine v_getI (kf := 11) (kz := 11) rfl kd_11 rfl ⟨by decide, by decide⟩ rfl wf_12_344 dX12_sit_250 ?_
    refine v_bipush ⟨by decide, by decide⟩ (by decide) dX12_sit_253 ?_
    refine v_cVIp (nA := 2) (As := [bI _, bI _]) (ix := 493) (cf_X12_ruleOn (b_wp_b h)) rfl kd_11 rfl rfl wc_X12_ruleOn wm_12_493 wi_X12_ruleOn ws_X12_ruleOn wn_12 ⟨by decide, by decide, by decide⟩ rfl ⟨by decide, by decide⟩ ⟨by decide, by decide⟩ (Nat.le_of_ble_eq_true rfl) dX12_sit_255 (fun x46 h => ?_)
    obtain ⟨g47, h⟩ := b_wp_g h
    refine v_iastore kd_238 g47 (by decide) dX12_sit_258 ?_
    replace h := b_wp_l h
    refine v_iload_n (f := 2) 2 rfl dX12_sit_259 ?_
    refine v_ireturn rfl dX12_sit_260 ⟨by decide, by decide⟩ ?_
    exact ⟨_, rfl, h⟩
  · replace h := b_wp_t c39 h
    refine v_iload_n (f := 2) 2 rfl dX12_sit_216 ?_
    refine v_ireturn rfl dX12_sit_217 ⟨by decide, by decide⟩ ?_
    exact ⟨_, rfl, h⟩
noncomputable def F_X12_sit (v1 : Int) (M : bM) : Option (Int × bM) :=
  b_bind (F_X12_isLot v1 M) (fun x1 => if x1 = 0 then (some ((-2), M)) else (b_g (0 ≤ v1 ∧ v1 < 60) (if (M 236 v1) = (-1) then (b_bind (b_loop (fun t => F_X12_sit_s34 v1 t.1 t.2.1 t.2.2.1 t.2.2.2.1 t.2.2.2.2) (0, (-1), 3, 0, M)) (fun t => F_X12_sit_b211 v1 (t.1) (t.2.1) (t.2.2.1) (t.2.2.2))) else (some ((-4), M)))))
theorem t_X12_sit {l : Launch} {E : bE} {Q : (Int × bM) → Prop} {v1 : Int} {M : bM} (h : b_wp (F_X12_sit v1 M) (Q)) : V l E xX12_sit (0, 0) 0 [(0, bR 11), (1, bI v1)] [] M (b_pI Q) := by
  unfold F_X12_sit at h
  refine v_aload_n (f := 0) 0 rfl dX12_sit_0 ?_
  refine v_iload_n (f := 1) 1 rfl dX12_sit_1 ?_
  refine v_cVIp (nA := 1) (As := [bI _]) (ix := 385) (cf_X12_isLot (b_wp_b h)) rfl kd_11 rfl rfl wc_X12_isLot wm_12_385 wi_X12_isLot ws_X12_isLot wn_12 ⟨by decide, by decide, by decide⟩ rfl ⟨by decide, by decide⟩ ⟨by decide, by decide⟩ (Nat.le_of_ble_eq_true rfl) dX12_sit_2 (fun x1 h => ?_)
  refine v_if_ne (tgt := 11) dX12_sit_5 (by decide) (fun c2 => ?_) (fun c2 => ?_)
  · replace h := b_wp_f c2 h
    obtain ⟨g3, h⟩ := b_wp_g h
    refine v_aload_n (f := 0) 0 rfl dX12_sit_11 ?_
    refine v_getR (kf := 113) (kz := 113) rfl kd_11 rfl ⟨by decide, by decide⟩ rfl wf_12_242 dX12_sit_12 ?_
    refine v_iload_n (f := 1) 1 rfl dX12_sit_15 ?_
    refine v_iaload kd_236 g3 (by decide) dX12_sit_16 ?_
    refine v_iconst ⟨by decide, by decide⟩ dX12_sit_17 ?_
    refine v_icmp_eq (tgt := 24) dX12_sit_18 (by decide) (fun c4 => ?_) (fun c4 => ?_)
    · replace h := b_wp_t c4 h
      refine v_iconst ⟨by decide, by decide⟩ dX12_sit_24 ?_
      refine v_istore_n (g := 2) (i := 2) (ls' := [(2, bI _), (0, bR _), (1, bI _)]) rfl (by decide) dX12_sit_25 rfl ?_
      refine v_iconst ⟨by decide, by decide⟩ dX12_sit_26 ?_
      refine v_istore_n (g := 3) (i := 3) (ls' := [(3, bI _), (2, bI _), (0, bR _), (1, bI _)]) rfl (by decide) dX12_sit_27 rfl ?_
      refine v_iconst ⟨by decide, by decide⟩ dX12_sit_28 ?_
      refine v_istore (i := 4) (ls' := [(4, bI _), (3, bI _), (2, bI _), (0, bR _), (1, bI _)]) (by decide) dX12_sit_29 rfl ?_
      refine v_iconst ⟨by decide, by decide⟩ dX12_sit_31 ?_
      refine v_istore (i := 5) (ls' := [(5, bI _), (4, bI _), (3, bI _), (2, bI _), (0, bR _), (1, bI _)]) (by decide) dX12_sit_32 rfl ?_
      refine v_sub (ls2 := [(0, bR _), (1, bI _), (2, bI _), (3, bI _), (4, bI _), (5, bI _)]) [4, 5, 3, 2, 1, 0] rfl ?_
      refine l_X12_sit_34 (b_wp_m (fun t h => ?_) (b_wp_b h))
      show V l E xX12_sit (0, 0) 211 [(0, bR 11), (1, bI _), (2, bI _), (3, bI _), (4, bI _)] [] _ (b_pI Q)
      exact t_X12_sit_b211 h
    · replace h := b_wp_f c4 h
      refine v_bipush ⟨by decide, by decide⟩ (by decide) dX12_sit_21 ?_
      refine v_ireturn rfl dX12_sit_23 ⟨by decide, by decide⟩ ?_
      exact ⟨_, rfl, h⟩
  · replace h := b_wp_t c2 h
    refine v_bipush ⟨by decide, by decide⟩ (by decide) dX12_sit_8 ?_
    refine v_ireturn rfl dX12_sit_10 ⟨by decide, by decide⟩ ?_
    exact ⟨_, rfl, h⟩
theorem cf_X12_sit {l : Launch} {E : bE} {M : bM} {v1 : Int} {Q : (Int × bM) → Prop} (h : b_wp (F_X12_sit v1 M) Q) : b_C l E xX12_sit yX12_sit [bR 11, bI v1] M (b_pI Q) := b_met (by decide) ⟨rfl, rfl⟩ (Nat.le_of_ble_eq_true rfl) (fun _ _ => t_X12_sit h)
abbrev xX12_isDoubt : bX := ("BurntHallModel", prog_14_method_118_code, 2, (Option.some Jvm.ClassFile.FieldType.boolean), b_rm 1 0 0, 0, "isDoubt")
abbrev yX12_isDoubt : MethodName := ⟨"BurntHallModel", "isDoubt", "(I)Z"⟩
theorem dX12_isDoubt_0 : decode prog_14_method_118_code 0 = .ok (.aload_n 0, 1) := by decide +kernel
theorem dX12_isDoubt_1 : decode prog_14_method_118_code 1 = .ok (.getfield 242, 3) := by decide +kernel
theorem dX12_isDoubt_4 : decode prog_14_method_118_code 4 = .ok (.iload_n 1, 1) := by decide +kernel
theorem dX12_isDoubt_5 : decode prog_14_method_118_code 5 = .ok (.iaload, 1) := by decide +kernel
theorem dX12_isDoubt_6 : decode prog_14_method_118_code 6 = .ok (.iconst (-1), 1) := by decide +kernel
theorem dX12_isDoubt_7 : decode prog_14_method_118_code 7 = .ok (.if_icmp .eq 46, 3) := by decide +kernel
theorem dX12_isDoubt_10 : decode prog_14_method_118_code 10 = .ok (.aload_n 0, 1) := by decide +kernel
theorem dX12_isDoubt_11 : decode prog_14_method_118_code 11 = .ok (.getfield 236, 3) := by decide +kernel
theorem dX12_isDoubt_14 : decode prog_14_method_118_code 14 = .ok (.aload_n 0, 1) := by decide +kernel
theorem dX12_isDoubt_15 : decode prog_14_method_118_code 15 = .ok (.getfield 242, 3) := by decide +kernel
theorem dX12_isDoubt_18 : decode prog_14_method_118_code 18 = .ok (.iload_n 1, 1) := by decide +kernel
theorem dX12_isDoubt_19 : decode prog_14_method_118_code 19 = .ok (.iaload, 1) := by decide +kernel
theorem dX12_isDoubt_20 : decode prog_14_method_118_code 20 = .ok (.iaload, 1) := by decide +kernel
theorem dX12_isDoubt_21 : decode prog_14_method_118_code 21 = .ok (.iconst 2, 1) := by decide +kernel
theorem dX12_isDoubt_22 : decode prog_14_method_118_code 22 = .ok (.if_icmp .ne 31, 3) := by decide +kernel
theorem dX12_isDoubt_25 : decode prog_14_method_118_code 25 = .ok (.aload_n 0, 1) := by decide +kernel
theorem dX12_isDoubt_26 : decode prog_14_method_118_code 26 = .ok (.getfield 344, 3) := by decide +kernel
theorem dX12_isDoubt_29 : decode prog_14_method_118_code 29 = .ok (.aload_n 0, 1) := by decide +kernel
theorem dX12_isDoubt_30 : decode prog_14_method_118_code 30 = .ok (.getfield 245, 3) := by decide +kernel
theorem dX12_isDoubt_33 : decode prog_14_method_118_code 33 = .ok (.iload_n 1, 1) := by decide +kernel
theorem dX12_isDoubt_34 : decode prog_14_method_118_code 34 = .ok (.iaload, 1) := by decide +kernel
theorem dX12_isDoubt_35 : decode prog_14_method_118_code 35 = .ok (.isub, 1) := by decide +kernel
theorem dX12_isDoubt_36 : decode prog_14_method_118_code 36 = .ok (.sipush 365, 3) := by decide +kernel
theorem dX12_isDoubt_39 : decode prog_14_method_118_code 39 = .ok (.aload_n 0, 1) := by decide +kernel
theorem dX12_isDoubt_40 : decode prog_14_method_118_code 40 = .ok (.getfield 248, 3) := by decide +kernel
theorem dX12_isDoubt_43 : decode prog_14_method_118_code 43 = .ok (.iload_n 1, 1) := by decide +kernel
theorem dX12_isDoubt_44 : decode prog_14_method_118_code 44 = .ok (.iaload, 1) := by decide +kernel
theorem dX12_isDoubt_45 : decode prog_14_method_118_code 45 = .ok (.imul, 1) := by decide +kernel
theorem dX12_isDoubt_46 : decode prog_14_method_118_code 46 = .ok (.if_icmp .ge 7, 3) := by decide +kernel
theorem dX12_isDoubt_49 : decode prog_14_method_118_code 49 = .ok (.iconst 1, 1) := by decide +kernel
theorem dX12_isDoubt_50 : decode prog_14_method_118_code 50 = .ok (.goto 4, 3) := by decide +kernel
theorem dX12_isDoubt_53 : decode prog_14_method_118_code 53 = .ok (.iconst 0, 1) := by decide +kernel
theorem dX12_isDoubt_54 : decode prog_14_method_118_code 54 = .ok (.ireturn, 1) := by decide +kernel
noncomputable def F_X12_isDoubt (v1 : Int) (M : bM) : Option (Int) :=
  b_g (0 ≤ v1 ∧ v1 < 60) (if (M 236 v1) = (-1) then (some 0) else (b_g ((0 ≤ v1 ∧ v1 < 60) ∧ (0 ≤ (M 236 v1) ∧ (M 236 v1) < 30)) (if (M 234 (M 236 v1)) = 2 then (b_g ((0 ≤ v1 ∧ v1 < 60) ∧ (b_i32 ((M 11 11) - (M 237 v1))) ∧ (b_i32 (365 * (M 238 v1)))) (if (365 * (M 238 v1)) ≤ ((M 11 11) - (M 237 v1)) then (some 0) else (some 1))) else (some 0))))
theorem t_X12_isDoubt {l : Launch} {E : bE} {Q : Int → Prop} {v1 : Int} {M : bM} (h : b_wp (F_X12_isDoubt v1 M) (Q)) : V l E xX12_isDoubt (0, 0) 0 [(0, bR 11), (1, bI v1)] [] M (b_pIp M Q) := by
  unfold F_X12_isDoubt at h
  obtain ⟨g1, h⟩ := b_wp_g h
  refine v_aload_n (f := 0) 0 rfl dX12_isDoubt_0 ?_
  refine v_getR (kf := 113) (kz := 113) rfl kd_11 rfl ⟨by decide, by decide⟩ rfl wf_12_242 dX12_isDoubt_1 ?_
  refine v_iload_n (f := 1) 1 rfl dX12_isDoubt_4 ?_
  refine v_iaload kd_236 g1 (by decide) dX12_isDoubt_5 ?_
  refine v_iconst ⟨by decide, by decide⟩ dX12_isDoubt_6 ?_
  refine v_icmp_eq (tgt := 53) dX12_isDoubt_7 (by decide) (fun c2 => ?_) (fun c2 => ?_)
  · replace h := b_wp_t c2 h
    refine v_iconst ⟨by decide, by decide⟩ dX12_isDoubt_53 ?_
    refine v_zreturn rfl (Or.inl rfl) dX12_isDoubt_54 ⟨by decide, by decide⟩ ?_
    exact ⟨_, rfl, rfl, h⟩
  · replace h := b_wp_f c2 h
    obtain ⟨⟨g3, g4⟩, h⟩ := b_wp_g h
    refine v_aload_n (f := 0) 0 rfl dX12_isDoubt_10 ?_
    refine v_getR (kf := 111) (kz := 111) rfl kd_11 rfl ⟨by decide, by decide⟩ rfl wf_12_236 dX12_isDoubt_11 ?_
    refine v_aload_n (f := 0) 0 rfl dX12_isDoubt_14 ?_
    refine v_getR (kf := 113) (kz := 113) rfl kd_11 rfl ⟨by decide, by decide⟩ rfl wf_12_242 dX12_isDoubt_15 ?_
    refine v_iload_n (f := 1) 1 rfl dX12_isDoubt_18 ?_
    refine v_iaload kd_236 g3 (by decide) dX12_isDoubt_19 ?_
    refine v_iaload kd_234 g4 (by decide) dX12_isDoubt_20 ?_
    refine v_iconst ⟨by decide, by decide⟩ dX12_isDoubt_21 ?_
    refine v_icmp_ne (tgt := 53) dX12_isDoubt_22 (by decide) (fun c5 => ?_) (fun c5 => ?_)
    · replace h := b_wp_f c5 h
      refine v_iconst ⟨by decide, by decide⟩ dX12_isDoubt_53 ?_
      refine v_zreturn rfl (Or.inl rfl) dX12_isDoubt_54 ⟨by decide, by decide⟩ ?_
      exact ⟨_, rfl, rfl, h⟩
    · replace h := b_wp_t c5 h
      obtain ⟨⟨g6, g7, g8⟩, h⟩ := b_wp_g h
      refine v_aload_n (f := 0) 0 rfl dX12_isDoubt_25 ?_
      refine v_getI (kf := 11) (kz := 11) rfl kd_11 rfl ⟨by decide, by decide⟩ rfl wf_12_344 dX12_isDoubt_26 ?_
      refine v_aload_n (f := 0) 0 rfl dX12_isDoubt_29 ?_
      refine v_getR (kf := 114) (kz := 114) rfl kd_11 rfl ⟨by decide, by decide⟩ rfl wf_12_245 dX12_isDoubt_30 ?_
      refine v_iload_n (f := 1) 1 rfl dX12_isDoubt_33 ?_
      refine v_iaload kd_237 g6 (by decide) dX12_isDoubt_34 ?_
      refine v_isubN g7 dX12_isDoubt_35 ?_
      refine v_sipush ⟨by decide, by decide⟩ (by decide) dX12_isDoubt_36 ?_
      refine v_aload_n (f := 0) 0 rfl dX12_isDoubt_39 ?_
      refine v_getR (kf := 115) (kz := 115) rfl kd_11 rfl ⟨by decide, by decide⟩ rfl wf_12_248 dX12_isDoubt_40 ?_
      refine v_iload_n (f := 1) 1 rfl dX12_isDoubt_43 ?_
      refine v_iaload kd_238 g6 (by decide) dX12_isDoubt_44 ?_
      refine v_imulN g8 dX12_isDoubt_45 ?_
      refine v_icmp_ge (tgt := 53) dX12_isDoubt_46 (by decide) (fun c9 => ?_) (fun c9 => ?_)
      · replace h := b_wp_t c9 h
        refine v_iconst ⟨by decide, by decide⟩ dX12_isDoubt_53 ?_
        refine v_zreturn rfl (Or.inl rfl) dX12_isDoubt_54 ⟨by decide, by decide⟩ ?_
        exact ⟨_, rfl, rfl, h⟩
      · replace h := b_wp_f c9 h
        refine v_iconst ⟨by decide, by decide⟩ dX12_isDoubt_49 ?_
        refine v_goto (tgt := 54) dX12_isDoubt_50 (by decide) ?_
        refine v_zreturn rfl (Or.inr rfl) dX12_isDoubt_54 ⟨by decide, by decide⟩ ?_
        exact ⟨_, rfl, rfl, h⟩
theorem cf_X12_isDoubt {l : Launch} {E : bE} {M : bM} {v1 : Int} {Q : Int → Prop} (h : b_wp (F_X12_isDoubt v1 M) Q) : b_C l E xX12_isDoubt yX12_isDoubt [bR 11, bI v1] M (b_pIp M Q) := b_met (by decide) ⟨rfl, rfl⟩ (Nat.le_of_ble_eq_true rfl) (fun _ _ => t_X12_isDoubt h)
abbrev xX12_ruledAs : bX := ("BurntHallModel", prog_14_method_119_code, 2, (Option.some Jvm.ClassFile.FieldType.int), b_rm 2 0 0, 0, "ruledAs")
abbrev yX12_ruledAs : MethodName := ⟨"BurntHallModel", "ruledAs", "(I)I"⟩
theorem dX12_ruledAs_0 : decode prog_14_method_119_code 0 = .ok (.aload_n 0, 1) := by decide +kernel
theorem dX12_ruledAs_1 : decode prog_14_method_119_code 1 = .ok (.getfield 236, 3) := by decide +kernel
theorem dX12_ruledAs_4 : decode prog_14_method_119_code 4 = .ok (.iload_n 1, 1) := by decide +kernel
theorem dX12_ruledAs_5 : decode prog_14_method_119_code 5 = .ok (.iaload, 1) := by decide +kernel
theorem dX12_ruledAs_6 : decode prog_14_method_119_code 6 = .ok (.iconst 2, 1) := by decide +kernel
theorem dX12_ruledAs_7 : decode prog_14_method_119_code 7 = .ok (.if_icmp .ne 20, 3) := by decide +kernel
theorem dX12_ruledAs_10 : decode prog_14_method_119_code 10 = .ok (.aload_n 0, 1) := by decide +kernel
theorem dX12_ruledAs_11 : decode prog_14_method_119_code 11 = .ok (.aload_n 0, 1) := by decide +kernel
theorem dX12_ruledAs_12 : decode prog_14_method_119_code 12 = .ok (.getfield 230, 3) := by decide +kernel
theorem dX12_ruledAs_15 : decode prog_14_method_119_code 15 = .ok (.iload_n 1, 1) := by decide +kernel
theorem dX12_ruledAs_16 : decode prog_14_method_119_code 16 = .ok (.iaload, 1) := by decide +kernel
theorem dX12_ruledAs_17 : decode prog_14_method_119_code 17 = .ok (.invokevirtual 641, 3) := by decide +kernel
theorem dX12_ruledAs_20 : decode prog_14_method_119_code 20 = .ok (.ifCond .ne 7, 3) := by decide +kernel
theorem dX12_ruledAs_23 : decode prog_14_method_119_code 23 = .ok (.iconst 1, 1) := by decide +kernel
theorem dX12_ruledAs_24 : decode prog_14_method_119_code 24 = .ok (.goto 9, 3) := by decide +kernel
theorem dX12_ruledAs_27 : decode prog_14_method_119_code 27 = .ok (.aload_n 0, 1) := by decide +kernel
theorem dX12_ruledAs_28 : decode prog_14_method_119_code 28 = .ok (.getfield 236, 3) := by decide +kernel
theorem dX12_ruledAs_31 : decode prog_14_method_119_code 31 = .ok (.iload_n 1, 1) := by decide +kernel
theorem dX12_ruledAs_32 : decode prog_14_method_119_code 32 = .ok (.iaload, 1) := by decide +kernel
theorem dX12_ruledAs_33 : decode prog_14_method_119_code 33 = .ok (.ireturn, 1) := by decide +kernel
noncomputable def F_X12_ruledAs_b27 (v1 : Int) (M : bM) : Option (Int) :=
  b_g (0 ≤ v1 ∧ v1 < 30) (some (M 234 v1))
theorem t_X12_ruledAs_b27 {l : Launch} {E : bE} {Q : Int → Prop} {v1 : Int} {M : bM} (h : b_wp (F_X12_ruledAs_b27 v1 M) (Q)) : V l E xX12_ruledAs (0, 0) 27 [(0, bR 11), (1, bI v1)] [] M (b_pIp M Q) := by
  unfold F_X12_ruledAs_b27 at h
  obtain ⟨g3, h⟩ := b_wp_g h
  refine v_aload_n (f := 0) 0 rfl dX12_ruledAs_27 ?_
  refine v_getR (kf := 111) (kz := 111) rfl kd_11 rfl ⟨by decide, by decide⟩ rfl wf_12_236 dX12_ruledAs_28 ?_
  refine v_iload_n (f := 1) 1 rfl dX12_ruledAs_31 ?_
  refine v_iaload kd_234 g3 (by decide) dX12_ruledAs_32 ?_
  refine v_ireturn rfl dX12_ruledAs_33 ⟨by decide, by decide⟩ ?_
  exact ⟨_, rfl, rfl, h⟩
noncomputable def F_X12_ruledAs (v1 : Int) (M : bM) : Option (Int) :=
  b_g (0 ≤ v1 ∧ v1 < 30) (if (M 234 v1) = 2 then (b_g (0 ≤ v1 ∧ v1 < 30) (b_bind (F_X12_isDoubt (M 232 v1) M) (fun x5 => if x5 = 0 then (some 1) else (F_X12_ruledAs_b27 v1 M)))) else (F_X12_ruledAs_b27 v1 M))
theorem t_X12_ruledAs {l : Launch} {E : bE} {Q : Int → Prop} {v1 : Int} {M : bM} (h : b_wp (F_X12_ruledAs v1 M) (Q)) : V l E xX12_ruledAs (0, 0) 0 [(0, bR 11), (1, bI v1)] [] M (b_pIp M Q) := by
  unfold F_X12_ruledAs at h
  obtain ⟨g1, h⟩ := b_wp_g h
  refine v_aload_n (f := 0) 0 rfl dX12_ruledAs_0 ?_
  refine v_getR (kf := 111) (kz := 111) rfl kd_11 rfl ⟨by decide, by decide⟩ rfl wf_12_236 dX12_ruledAs_1 ?_
  refine v_iload_n (f := 1) 1 rfl dX12_ruledAs_4 ?_
  refine v_iaload kd_234 g1 (by decide) dX12_ruledAs_5 ?_
  refine v_iconst ⟨by decide, by decide⟩ dX12_ruledAs_6 ?_
  refine v_icmp_ne (tgt := 27) dX12_ruledAs_7 (by decide) (fun c2 => ?_) (fun c2 => ?_)
  · replace h := b_wp_f c2 h
    exact t_X12_ruledAs_b27 h
  · replace h := b_wp_t c2 h
    obtain ⟨g4, h⟩ := b_wp_g h
    refine v_aload_n (f := 0) 0 rfl dX12_ruledAs_10 ?_
    refine v_aload_n (f := 0) 0 rfl dX12_ruledAs_11 ?_
    refine v_getR (kf := 109) (kz := 109) rfl kd_11 rfl ⟨by decide, by decide⟩ rfl wf_12_230 dX12_ruledAs_12 ?_
    refine v_iload_n (f := 1) 1 rfl dX12_ruledAs_15 ?_
    refine v_iaload kd_232 g4 (by decide) dX12_ruledAs_16 ?_
    refine v_cVIp (nA := 1) (As := [bI _]) (ix := 641) (cf_X12_isDoubt (b_wp_b h)) rfl kd_11 rfl rfl wc_X12_isDoubt wm_12_641 wi_X12_isDoubt ws_X12_isDoubt wn_12 ⟨by decide, by decide, by decide⟩ rfl ⟨by decide, by decide⟩ ⟨by decide, by decide⟩ (Nat.le_of_ble_eq_true rfl) dX12_ruledAs_17 (fun x5 h => ?_)
    refine v_if_ne (tgt := 27) dX12_ruledAs_20 (by decide) (fun c6 => ?_) (fun c6 => ?_)
    · replace h := b_wp_f c6 h
      exact t_X12_ruledAs_b27 h
    · replace h := b_wp_t c6 h
      refine v_iconst ⟨by decide, by decide⟩ dX12_ruledAs_23 ?_
      refine v_goto (tgt := 33) dX12_ruledAs_24 (by decide) ?_
      refine v_ireturn rfl dX12_ruledAs_33 ⟨by decide, by decide⟩ ?_
      exact ⟨_, rfl, rfl, h⟩
theorem cf_X12_ruledAs {l : Launch} {E : bE} {M : bM} {v1 : Int} {Q : Int → Prop} (h : b_wp (F_X12_ruledAs v1 M) Q) : b_C l E xX12_ruledAs yX12_ruledAs [bR 11, bI v1] M (b_pIp M Q) := b_met (by decide) ⟨rfl, rfl⟩ (Nat.le_of_ble_eq_true rfl) (fun _ _ => t_X12_ruledAs h)
abbrev xX12_claimed : bX := ("BurntHallModel", prog_14_method_120_code, 3, (Option.some Jvm.ClassFile.FieldType.int), b_rm 3 0 0, 0, "claimed")
abbrev yX12_claimed : MethodName := ⟨"BurntHallModel", "claimed", "(II)I"⟩
theorem dX12_claimed_0 : decode prog_14_method_120_code 0 = .ok (.iload_n 1, 1) := by decide +kernel
theorem dX12_claimed_1 : decode prog_14_method_120_code 1 = .ok (.iconst 0, 1) := by decide +kernel
theorem dX12_claimed_2 : decode prog_14_method_120_code 2 = .ok (.aload_n 0, 1) := by decide +kernel
theorem dX12_claimed_3 : decode prog_14_method_120_code 3 = .ok (.getfield 635, 3) := by decide +kernel
theorem dX12_claimed_6 : decode prog_14_method_120_code 6 = .ok (.iconst 1, 1) := by decide +kernel
theorem dX12_claimed_7 : decode prog_14_method_120_code 7 = .ok (.isub, 1) := by decide +kernel
theorem dX12_claimed_8 : decode prog_14_method_120_code 8 = .ok (.invokestatic 279, 3) := by decide +kernel
theorem dX12_claimed_11 : decode prog_14_method_120_code 11 = .ok (.ifCond .ne 6, 3) := by decide +kernel
theorem dX12_claimed_14 : decode prog_14_method_120_code 14 = .ok (.bipush (-9), 2) := by decide +kernel
theorem dX12_claimed_16 : decode prog_14_method_120_code 16 = .ok (.ireturn, 1) := by decide +kernel
theorem dX12_claimed_17 : decode prog_14_method_120_code 17 = .ok (.iload_n 2, 1) := by decide +kernel
theorem dX12_claimed_18 : decode prog_14_method_120_code 18 = .ok (.tableswitch 68 0 4 #[34, 41, 48, 55, 61], 34) := by decide +kernel
theorem dX12_claimed_52 : decode prog_14_method_120_code 52 = .ok (.aload_n 0, 1) := by decide +kernel
theorem dX12_claimed_53 : decode prog_14_method_120_code 53 = .ok (.getfield 227, 3) := by decide +kernel
theorem dX12_claimed_56 : decode prog_14_method_120_code 56 = .ok (.iload_n 1, 1) := by decide +kernel
theorem dX12_claimed_57 : decode prog_14_method_120_code 57 = .ok (.iaload, 1) := by decide +kernel
theorem dX12_claimed_58 : decode prog_14_method_120_code 58 = .ok (.ireturn, 1) := by decide +kernel
theorem dX12_claimed_59 : decode prog_14_method_120_code 59 = .ok (.aload_n 0, 1) := by decide +kernel
theorem dX12_claimed_60 : decode prog_14_method_120_code 60 = .ok (.getfield 230, 3) := by decide +kernel
theorem dX12_claimed_63 : decode prog_14_method_120_code 63 = .ok (.iload_n 1, 1) := by decide +kernel
theorem dX12_claimed_64 : decode prog_14_method_120_code 64 = .ok (.iaload, 1) := by decide +kernel
theorem dX12_claimed_65 : decode prog_14_method_120_code 65 = .ok (.ireturn, 1) := by decide +kernel
theorem dX12_claimed_66 : decode prog_14_method_120_code 66 = .ok (.aload_n 0, 1) := by decide +kernel
theorem dX12_claimed_67 : decode prog_14_method_120_code 67 = .ok (.getfield 233, 3) := by decide +kernel
theorem dX12_claimed_70 : decode prog_14_method_120_code 70 = .ok (.iload_n 1, 1) := by decide +kernel
theorem dX12_claimed_71 : decode prog_14_method_120_code 71 = .ok (.iaload, 1) := by decide +kernel
theorem dX12_claimed_72 : decode prog_14_method_120_code 72 = .ok (.ireturn, 1) := by decide +kernel
theorem dX12_claimed_73 : decode prog_14_method_120_code 73 = .ok (.aload_n 0, 1) := by decide +kernel
theorem dX12_claimed_74 : decode prog_14_method_120_code 74 = .ok (.iload_n 1, 1) := by decide +kernel
theorem dX12_claimed_75 : decode prog_14_method_120_code 75 = .ok (.invokevirtual 644, 3) := by decide +kernel
theorem dX12_claimed_78 : decode prog_14_method_120_code 78 = .ok (.ireturn, 1) := by decide +kernel
theorem dX12_claimed_79 : decode prog_14_method_120_code 79 = .ok (.aload_n 0, 1) := by decide +kernel
theorem dX12_claimed_80 : decode prog_14_method_120_code 80 = .ok (.getfield 239, 3) := by decide +kernel
theorem dX12_claimed_83 : decode prog_14_method_120_code 83 = .ok (.iload_n 1, 1) := by decide +kernel
theorem dX12_claimed_84 : decode prog_14_method_120_code 84 = .ok (.iaload, 1) := by decide +kernel
theorem dX12_claimed_85 : decode prog_14_method_120_code 85 = .ok (.ireturn, 1) := by decide +kernel
theorem dX12_claimed_86 : decode prog_14_method_120_code 86 = .ok (.bipush (-9), 2) := by decide +kernel
theorem dX12_claimed_88 : decode prog_14_method_120_code 88 = .ok (.ireturn, 1) := by decide +kernel
noncomputable def F_X12_claimed (v1 : Int) (v2 : Int) (M : bM) : Option (Int) :=
  b_g (b_i32 ((M 11 106) - 1)) (b_bind (F_X12_in v1 0 ((M 11 106) - 1) M) (fun x2 => if x2 = 0 then (some (-9)) else (if v2 = 0 then (b_g (0 ≤ v1 ∧ v1 < 30) (some (M 231 v1))) else (if v2 = 1 then (b_g (0 ≤ v1 ∧ v1 < 30) (some (M 232 v1))) else (if v2 = 2 then (b_g (0 ≤ v1 ∧ v1 < 30) (some (M 233 v1))) else (if v2 = 3 then (b_bind (F_X12_ruledAs v1 M) (fun x15 => some x15)) else (if v2 = 4 then (b_g (0 ≤ v1 ∧ v1 < 30) (some (M 235 v1))) else (some (-9)))))))))
theorem t_X12_claimed {l : Launch} {E : bE} {Q : Int → Prop} {v1 : Int} {v2 : Int} {M : bM} (h : b_wp (F_X12_claimed v1 v2 M) (Q)) : V l E xX12_claimed (0, 0) 0 [(0, bR 11), (1, bI v1), (2, bI v2)] [] M (b_pIp M Q) := by
  unfold F_X12_claimed at h
  obtain ⟨g1, h⟩ := b_wp_g h
  refine v_iload_n (f := 1) 1 rfl dX12_claimed_0 ?_
  refine v_iconst ⟨by decide, by decide⟩ dX12_claimed_1 ?_
  refine v_aload_n (f := 0) 0 rfl dX12_claimed_2 ?_
  refine v_getI (kf := 106) (kz := 106) rfl kd_11 rfl ⟨by decide, by decide⟩ rfl wf_12_635 dX12_claimed_3 ?_
  refine v_iconst ⟨by decide, by decide⟩ dX12_claimed_6 ?_
  refine v_isubN g1 dX12_claimed_7 ?_
  refine v_cSIp (nA := 3) (As := [bI _, bI _, bI _]) (ix := 279) (cf_X12_in (b_wp_b h)) rfl wc_X12_in wm_12_279 wi_X12_in wn_12 ⟨by decide, by decide, by decide⟩ rfl ⟨by decide, by decide⟩ ⟨by decide, by decide⟩ (Nat.le_of_ble_eq_true rfl) dX12_claimed_8 (fun x2 h => ?_)
  refine v_if_ne (tgt := 17) dX12_claimed_11 (by decide) (fun c3 => ?_) (fun c3 => ?_)
  · replace h := b_wp_f c3 h
    refine v_iload_n (f := 2) 2 rfl dX12_claimed_17 ?_
    refine v_case (v := 0) (fun c4 => ?_) (fun c5 => ?_)
    · refine v_tsIn (tgt := 52) (0) c4 (by decide) (by decide) rfl dX12_claimed_18 (by decide) ?_
      replace h := b_wp_t c4 h
      obtain ⟨g6, h⟩ := b_wp_g h
      refine v_aload_n (f := 0) 0 rfl dX12_claimed_52 ?_
      refine v_getR (kf := 108) (kz := 108) rfl kd_11 rfl ⟨by decide, by decide⟩ rfl wf_12_227 dX12_claimed_53 ?_
      refine v_iload_n (f := 1) 1 rfl dX12_claimed_56 ?_
      refine v_iaload kd_231 g6 (by decide) dX12_claimed_57 ?_
      refine v_ireturn rfl dX12_claimed_58 ⟨by decide, by decide⟩ ?_
      exact ⟨_, rfl, rfl, h⟩
    replace h := b_wp_f c5 h
    refine v_case (v := 1) (fun c7 => ?_) (fun c8 => ?_)
    · refine v_tsIn (tgt := 59) (1) c7 (by decide) (by decide) rfl dX12_claimed_18 (by decide) ?_
      replace h := b_wp_t c7 h
      obtain ⟨g9, h⟩ := b_wp_g h
      refine v_aload_n (f := 0) 0 rfl dX12_claimed_59 ?_
      refine v_getR (kf := 109) (kz := 109) rfl kd_11 rfl ⟨by decide, by decide⟩ rfl wf_12_230 dX12_claimed_60 ?_
      refine v_iload_n (f := 1) 1 rfl dX12_claimed_63 ?_
      refine v_iaload kd_232 g9 (by decide) dX12_claimed_64 ?_
      refine v_ireturn rfl dX12_claimed_65 ⟨by decide, by decide⟩ ?_
      exact ⟨_, rfl, rfl, h⟩
    replace h := b_wp_f c8 h
    refine v_case (v := 2) (fun c10 => ?_) (fun c11 => ?_)
    · refine v_tsIn (tgt := 66) (2) c10 (by decide) (by decide) rfl dX12_claimed_18 (by decide) ?_
      replace h := b_wp_t c10 h
      obtain ⟨g12, h⟩ := b_wp_g h
      refine v_aload_n (f := 0) 0 rfl dX12_claimed_66 ?_
      refine v_getR (kf := 110) (kz := 110) rfl kd_11 rfl ⟨by decide, by decide⟩ rfl wf_12_233 dX12_claimed_67 ?_
      refine v_iload_n (f := 1) 1 rfl dX12_claimed_70 ?_
      refine v_iaload kd_233 g12 (by decide) dX12_claimed_71 ?_
      refine v_ireturn rfl dX12_claimed_72 ⟨by decide, by decide⟩ ?_
      exact ⟨_, rfl, rfl, h⟩
    replace h := b_wp_f c11 h
    refine v_case (v := 3) (fun c13 => ?_) (fun c14 => ?_)
    · refine v_tsIn (tgt := 73) (3) c13 (by decide) (by decide) rfl dX12_claimed_18 (by decide) ?_
      replace h := b_wp_t c13 h
      refine v_aload_n (f := 0) 0 rfl dX12_claimed_73 ?_
      refine v_iload_n (f := 1) 1 rfl dX12_claimed_74 ?_
      refine v_cVIp (nA := 1) (As := [bI _]) (ix := 644) (cf_X12_ruledAs (b_wp_b h)) rfl kd_11 rfl rfl wc_X12_ruledAs wm_12_644 wi_X12_ruledAs ws_X12_ruledAs wn_12 ⟨by decide, by decide, by decide⟩ rfl ⟨by decide, by decide⟩ ⟨by decide, by decide⟩ (Nat.le_of_ble_eq_true rfl) dX12_claimed_75 (fun x15 h => ?_)
      refine v_ireturn rfl dX12_claimed_78 ⟨by decide, by decide⟩ ?_
      exact ⟨_, rfl, rfl, h⟩
    replace h := b_wp_f c14 h
    refine v_case (v := 4) (fun c16 => ?_) (fun c17 => ?_)
    · refine v_tsIn (tgt := 79) (4) c16 (by decide) (by decide) rfl dX12_claimed_18 (by decide) ?_
      replace h := b_wp_t c16 h
      obtain ⟨g18, h⟩ := b_wp_g h
      refine v_aload_n (f := 0) 0 rfl dX12_claimed_79 ?_
      refine v_getR (kf := 112) (kz := 112) rfl kd_11 rfl ⟨by decide, by decide⟩ rfl wf_12_239 dX12_claimed_80 ?_
      refine v_iload_n (f := 1) 1 rfl dX12_claimed_83 ?_
      refine v_iaload kd_235 g18 (by decide) dX12_claimed_84 ?_
      refine v_ireturn rfl dX12_claimed_85 ⟨by decide, by decide⟩ ?_
      exact ⟨_, rfl, rfl, h⟩
    replace h := b_wp_f c17 h
    refine v_tsOut (tgt := 86) (by omega) dX12_claimed_18 (by decide) ?_
    refine v_bipush ⟨by decide, by decide⟩ (by decide) dX12_claimed_86 ?_
    refine v_ireturn rfl dX12_claimed_88 ⟨by decide, by decide⟩ ?_
    exact ⟨_, rfl, rfl, h⟩
  · replace h := b_wp_t c3 h
    refine v_bipush ⟨by decide, by decide⟩ (by decide) dX12_claimed_14 ?_
    refine v_ireturn rfl dX12_claimed_16 ⟨by decide, by decide⟩ ?_
    exact ⟨_, rfl, rfl, h⟩
theorem cf_X12_claimed {l : Launch} {E : bE} {M : bM} {v1 : Int} {v2 : Int} {Q : Int → Prop} (h : b_wp (F_X12_claimed v1 v2 M) Q) : b_C l E xX12_claimed yX12_claimed [bR 11, bI v1, bI v2] M (b_pIp M Q) := b_met (by decide) ⟨rfl, rfl⟩ (Nat.le_of_ble_eq_true rfl) (fun _ _ => t_X12_claimed h)
abbrev xX12_ruled : bX := ("BurntHallModel", prog_14_method_121_code, 3, (Option.some Jvm.ClassFile.FieldType.int), b_rm 3 0 0, 0, "ruled")
abbrev yX12_ruled : MethodName := ⟨"BurntHallModel", "ruled", "(II)I"⟩
theorem dX12_ruled_0 : decode prog_14_method_121_code 0 = .ok (.aload_n 0, 1) := by decide +kernel
theorem dX12_ruled_1 : decode prog_14_method_121_code 1 = .ok (.iload_n 1, 1) := by decide +kernel
theorem dX12_ruled_2 : decode prog_14_method_121_code 2 = .ok (.invokevirtual 385, 3) := by decide +kernel
theorem dX12_ruled_5 : decode prog_14_method_121_code 5 = .ok (.ifCond .eq 13, 3) := by decide +kernel
theorem dX12_ruled_8 : decode prog_14_method_121_code 8 = .ok (.aload_n 0, 1) := by decide +kernel
theorem dX12_ruled_9 : decode prog_14_method_121_code 9 = .ok (.getfield 242, 3) := by decide +kernel
theorem dX12_ruled_12 : decode prog_14_method_121_code 12 = .ok (.iload_n 1, 1) := by decide +kernel
theorem dX12_ruled_13 : decode prog_14_method_121_code 13 = .ok (.iaload, 1) := by decide +kernel
theorem dX12_ruled_14 : decode prog_14_method_121_code 14 = .ok (.iconst (-1), 1) := by decide +kernel
theorem dX12_ruled_15 : decode prog_14_method_121_code 15 = .ok (.if_icmp .ne 5, 3) := by decide +kernel
theorem dX12_ruled_18 : decode prog_14_method_121_code 18 = .ok (.iconst (-1), 1) := by decide +kernel
theorem dX12_ruled_19 : decode prog_14_method_121_code 19 = .ok (.ireturn, 1) := by decide +kernel
theorem dX12_ruled_20 : decode prog_14_method_121_code 20 = .ok (.iload_n 2, 1) := by decide +kernel
theorem dX12_ruled_21 : decode prog_14_method_121_code 21 = .ok (.ifCond .ne 12, 3) := by decide +kernel
theorem dX12_ruled_24 : decode prog_14_method_121_code 24 = .ok (.aload_n 0, 1) := by decide +kernel
theorem dX12_ruled_25 : decode prog_14_method_121_code 25 = .ok (.getfield 242, 3) := by decide +kernel
theorem dX12_ruled_28 : decode prog_14_method_121_code 28 = .ok (.iload_n 1, 1) := by decide +kernel
theorem dX12_ruled_29 : decode prog_14_method_121_code 29 = .ok (.iaload, 1) := by decide +kernel
theorem dX12_ruled_30 : decode prog_14_method_121_code 30 = .ok (.goto 36, 3) := by decide +kernel
theorem dX12_ruled_33 : decode prog_14_method_121_code 33 = .ok (.iload_n 2, 1) := by decide +kernel
theorem dX12_ruled_34 : decode prog_14_method_121_code 34 = .ok (.iconst 1, 1) := by decide +kernel
theorem dX12_ruled_35 : decode prog_14_method_121_code 35 = .ok (.if_icmp .ne 12, 3) := by decide +kernel
theorem dX12_ruled_38 : decode prog_14_method_121_code 38 = .ok (.aload_n 0, 1) := by decide +kernel
theorem dX12_ruled_39 : decode prog_14_method_121_code 39 = .ok (.getfield 245, 3) := by decide +kernel
theorem dX12_ruled_42 : decode prog_14_method_121_code 42 = .ok (.iload_n 1, 1) := by decide +kernel
theorem dX12_ruled_43 : decode prog_14_method_121_code 43 = .ok (.iaload, 1) := by decide +kernel
theorem dX12_ruled_44 : decode prog_14_method_121_code 44 = .ok (.goto 22, 3) := by decide +kernel
theorem dX12_ruled_47 : decode prog_14_method_121_code 47 = .ok (.iload_n 2, 1) := by decide +kernel
theorem dX12_ruled_48 : decode prog_14_method_121_code 48 = .ok (.iconst 2, 1) := by decide +kernel
theorem dX12_ruled_49 : decode prog_14_method_121_code 49 = .ok (.if_icmp .ne 16, 3) := by decide +kernel
theorem dX12_ruled_52 : decode prog_14_method_121_code 52 = .ok (.aload_n 0, 1) := by decide +kernel
theorem dX12_ruled_53 : decode prog_14_method_121_code 53 = .ok (.aload_n 0, 1) := by decide +kernel
theorem dX12_ruled_54 : decode prog_14_method_121_code 54 = .ok (.getfield 242, 3) := by decide +kernel
theorem dX12_ruled_57 : decode prog_14_method_121_code 57 = .ok (.iload_n 1, 1) := by decide +kernel
theorem dX12_ruled_58 : decode prog_14_method_121_code 58 = .ok (.iaload, 1) := by decide +kernel
theorem dX12_ruled_59 : decode prog_14_method_121_code 59 = .ok (.invokevirtual 644, 3) := by decide +kernel
theorem dX12_ruled_62 : decode prog_14_method_121_code 62 = .ok (.goto 4, 3) := by decide +kernel
theorem dX12_ruled_65 : decode prog_14_method_121_code 65 = .ok (.iconst (-1), 1) := by decide +kernel
theorem dX12_ruled_66 : decode prog_14_method_121_code 66 = .ok (.ireturn, 1) := by decide +kernel
noncomputable def F_X12_ruled (v1 : Int) (v2 : Int) (M : bM) : Option (Int) :=
  b_bind (F_X12_isLot v1 M) (fun x1 => if x1 = 0 then (some (-1)) else (b_g (0 ≤ v1 ∧ v1 < 60) (if (M 236 v1) = (-1) then (some (-1)) else (if v2 = 0 then (b_g (0 ≤ v1 ∧ v1 < 60) (some (M 236 v1))) else (if v2 = 1 then (b_g (0 ≤ v1 ∧ v1 < 60) (some (M 237 v1))) else (if v2 = 2 then (b_g (0 ≤ v1 ∧ v1 < 60) (b_bind (F_X12_ruledAs (M 236 v1) M) (fun x9 => some x9))) else (some (-1))))))))
theorem t_X12_ruled {l : Launch} {E : bE} {Q : Int → Prop} {v1 : Int} {v2 : Int} {M : bM} (h : b_wp (F_X12_ruled v1 v2 M) (Q)) : V l E xX12_ruled (0, 0) 0 [(0, bR 11), (1, bI v1), (2, bI v2)] [] M (b_pIp M Q) := by
  unfold F_X12_ruled at h
  refine v_aload_n (f := 0) 0 rfl dX12_ruled_0 ?_
  refine v_iload_n (f := 1) 1 rfl dX12_ruled_1 ?_
  refine v_cVIp (nA := 1) (As := [bI _]) (ix := 385) (cf_X12_isLot (b_wp_b h)) rfl kd_11 rfl rfl wc_X12_isLot wm_12_385 wi_X12_isLot ws_X12_isLot wn_12 ⟨by decide, by decide, by decide⟩ rfl ⟨by decide, by decide⟩ ⟨by decide, by decide⟩ (Nat.le_of_ble_eq_true rfl) dX12_ruled_2 (fun x1 h => ?_)
  refine v_if_eq (tgt := 18) dX12_ruled_5 (by decide) (fun c2 => ?_) (fun c2 => ?_)
  · replace h := b_wp_t c2 h
    refine v_iconst ⟨by decide, by decide⟩ dX12_ruled_18 ?_
    refine v_ireturn rfl dX12_ruled_19 ⟨by decide, by decide⟩ ?_
    exact ⟨_, rfl, rfl, h⟩
  · replace h := b_wp_f c2 h
    obtain ⟨g3, h⟩ := b_wp_g h
    refine v_aload_n (f := 0) 0 rfl dX12_ruled_8 ?_
    refine v_getR (kf := 113) (kz := 113) rfl kd_11 rfl ⟨by decide, by decide⟩ rfl wf_12_242 dX12_ruled_9 ?_
    refine v_iload_n (f := 1) 1 rfl dX12_ruled_12 ?_
    refine v_iaload kd_236 g3 (by decide) dX12_ruled_13 ?_
    refine v_iconst ⟨by decide, by decide⟩ dX12_ruled_14 ?_
    refine v_icmp_ne (tgt := 20) dX12_ruled_15 (by decide) (fun c4 => ?_) (fun c4 => ?_)
    · replace h := b_wp_f c4 h
      refine v_iload_n (f := 2) 2 rfl dX12_ruled_20 ?_
      refine v_if_ne (tgt := 33) dX12_ruled_21 (by decide) (fun c5 => ?_) (fun c5 => ?_)
      · replace h := b_wp_f c5 h
        refine v_iload_n (f := 2) 2 rfl dX12_ruled_33 ?_
        refine v_iconst ⟨by decide, by decide⟩ dX12_ruled_34 ?_
        refine v_icmp_ne (tgt := 47) dX12_ruled_35 (by decide) (fun c6 => ?_) (fun c6 => ?_)
        · replace h := b_wp_f c6 h
          refine v_iload_n (f := 2) 2 rfl dX12_ruled_47 ?_
          refine v_iconst ⟨by decide, by decide⟩ dX12_ruled_48 ?_
          refine v_icmp_ne (tgt := 65) dX12_ruled_49 (by decide) (fun c7 => ?_) (fun c7 => ?_)
          · replace h := b_wp_f c7 h
            refine v_iconst ⟨by decide, by decide⟩ dX12_ruled_65 ?_
            refine v_ireturn rfl dX12_ruled_66 ⟨by decide, by decide⟩ ?_
            exact ⟨_, rfl, rfl, h⟩
          · replace h := b_wp_t c7 h
            obtain ⟨g8, h⟩ := b_wp_g h
            refine v_aload_n (f := 0) 0 rfl dX12_ruled_52 ?_
            refine v_aload_n (f := 0) 0 rfl dX12_ruled_53 ?_
            refine v_getR (kf := 113) (kz := 113) rfl kd_11 rfl ⟨by decide, by decide⟩ rfl wf_12_242 dX12_ruled_54 ?_
            refine v_iload_n (f := 1) 1 rfl dX12_ruled_57 ?_
            refine v_iaload kd_236 g8 (by decide) dX12_ruled_58 ?_
            refine v_cVIp (nA := 1) (As := [bI _]) (ix := 644) (cf_X12_ruledAs (b_wp_b h)) rfl kd_11 rfl rfl wc_X12_ruledAs wm_12_644 wi_X12_ruledAs ws_X12_ruledAs wn_12 ⟨by decide, by decide, by decide⟩ rfl ⟨by decide, by decide⟩ ⟨by decide, by decide⟩ (Nat.le_of_ble_eq_true rfl) dX12_ruled_59 (fun x9 h => ?_)
            refine v_goto (tgt := 66) dX12_ruled_62 (by decide) ?_
            refine v_ireturn rfl dX12_ruled_66 ⟨by decide, by decide⟩ ?_
            exact ⟨_, rfl, rfl, h⟩
        · replace h := b_wp_t c6 h
          obtain ⟨g10, h⟩ := b_wp_g h
          refine v_aload_n (f := 0) 0 rfl dX12_ruled_38 ?_
          refine v_getR (kf := 114) (kz := 114) rfl kd_11 rfl ⟨by decide, by decide⟩ rfl wf_12_245 dX12_ruled_39 ?_
          refine v_iload_n (f := 1) 1 rfl dX12_ruled_42 ?_
          refine v_iaload kd_237 g10 (by decide) dX12_ruled_43 ?_
          refine v_goto (tgt := 66) dX12_ruled_44 (by decide) ?_
          refine v_ireturn rfl dX12_ruled_66 ⟨by decide, by decide⟩ ?_
          exact ⟨_, rfl, rfl, h⟩
      · replace h := b_wp_t c5 h
        obtain ⟨g11, h⟩ := b_wp_g h
        refine v_aload_n (f := 0) 0 rfl dX12_ruled_24 ?_
        refine v_getR (kf := 113) (kz := 113) rfl kd_11 rfl ⟨by decide, by decide⟩ rfl wf_12_242 dX12_ruled_25 ?_
        refine v_iload_n (f := 1) 1 rfl dX12_ruled_28 ?_
        refine v_iaload kd_236 g11 (by decide) dX12_ruled_29 ?_
        refine v_goto (tgt := 66) dX12_ruled_30 (by decide) ?_
        refine v_ireturn rfl dX12_ruled_66 ⟨by decide, by decide⟩ ?_
        exact ⟨_, rfl, rfl, h⟩
    · replace h := b_wp_t c4 h
      refine v_iconst ⟨by decide, by decide⟩ dX12_ruled_18 ?_
      refine v_ireturn rfl dX12_ruled_19 ⟨by decide, by decide⟩ ?_
      exact ⟨_, rfl, rfl, h⟩
theorem cf_X12_ruled {l : Launch} {E : bE} {M : bM} {v1 : Int} {v2 : Int} {Q : Int → Prop} (h : b_wp (F_X12_ruled v1 v2 M) Q) : b_C l E xX12_ruled yX12_ruled [bR 11, bI v1, bI v2] M (b_pIp M Q) := b_met (by decide) ⟨rfl, rfl⟩ (Nat.le_of_ble_eq_true rfl) (fun _ _ => t_X12_ruled h)
abbrev xX12_open : bX := ("BurntHallModel", prog_14_method_122_code, 5, (Option.some Jvm.ClassFile.FieldType.int), b_rm 7 0 0, 0, "open")
abbrev yX12_open : MethodName := ⟨"BurntHallModel", "open", "(I)I"⟩
theorem dX12_open_0 : decode prog_14_method_122_code 0 = .ok (.aload_n 0, 1) := by decide +kernel
theorem dX12_open_1 : decode prog_14_method_122_code 1 = .ok (.iload_n 1, 1) := by decide +kernel
theorem dX12_open_2 : decode prog_14_method_122_code 2 = .ok (.invokevirtual 385, 3) := by decide +kernel
theorem dX12_open_5 : decode prog_14_method_122_code 5 = .ok (.ifCond .ne 6, 3) := by decide +kernel
theorem dX12_open_8 : decode prog_14_method_122_code 8 = .ok (.bipush (-2), 2) := by decide +kernel
theorem dX12_open_10 : decode prog_14_method_122_code 10 = .ok (.ireturn, 1) := by decide +kernel
theorem dX12_open_11 : decode prog_14_method_122_code 11 = .ok (.aload_n 0, 1) := by decide +kernel
theorem dX12_open_12 : decode prog_14_method_122_code 12 = .ok (.iload_n 1, 1) := by decide +kernel
theorem dX12_open_13 : decode prog_14_method_122_code 13 = .ok (.invokevirtual 641, 3) := by decide +kernel
theorem dX12_open_16 : decode prog_14_method_122_code 16 = .ok (.ifCond .ne 6, 3) := by decide +kernel
theorem dX12_open_19 : decode prog_14_method_122_code 19 = .ok (.bipush (-4), 2) := by decide +kernel
theorem dX12_open_21 : decode prog_14_method_122_code 21 = .ok (.ireturn, 1) := by decide +kernel
theorem dX12_open_22 : decode prog_14_method_122_code 22 = .ok (.aload_n 0, 1) := by decide +kernel
theorem dX12_open_23 : decode prog_14_method_122_code 23 = .ok (.aload_n 0, 1) := by decide +kernel
theorem dX12_open_24 : decode prog_14_method_122_code 24 = .ok (.getfield 242, 3) := by decide +kernel
theorem dX12_open_27 : decode prog_14_method_122_code 27 = .ok (.iload_n 1, 1) := by decide +kernel
theorem dX12_open_28 : decode prog_14_method_122_code 28 = .ok (.iaload, 1) := by decide +kernel
theorem dX12_open_29 : decode prog_14_method_122_code 29 = .ok (.invokevirtual 638, 3) := by decide +kernel
theorem dX12_open_32 : decode prog_14_method_122_code 32 = .ok (.iconst 3, 1) := by decide +kernel
theorem dX12_open_33 : decode prog_14_method_122_code 33 = .ok (.if_icmp .ne 7, 3) := by decide +kernel
theorem dX12_open_36 : decode prog_14_method_122_code 36 = .ok (.iconst 1, 1) := by decide +kernel
theorem dX12_open_37 : decode prog_14_method_122_code 37 = .ok (.goto 4, 3) := by decide +kernel
theorem dX12_open_40 : decode prog_14_method_122_code 40 = .ok (.iconst 0, 1) := by decide +kernel
theorem dX12_open_41 : decode prog_14_method_122_code 41 = .ok (.istore_n 2, 1) := by decide +kernel
theorem dX12_open_42 : decode prog_14_method_122_code 42 = .ok (.iconst 0, 1) := by decide +kernel
theorem dX12_open_43 : decode prog_14_method_122_code 43 = .ok (.istore_n 3, 1) := by decide +kernel
theorem dX12_open_44 : decode prog_14_method_122_code 44 = .ok (.iload_n 3, 1) := by decide +kernel
theorem dX12_open_45 : decode prog_14_method_122_code 45 = .ok (.aload_n 0, 1) := by decide +kernel
theorem dX12_open_46 : decode prog_14_method_122_code 46 = .ok (.getfield 635, 3) := by decide +kernel
theorem dX12_open_49 : decode prog_14_method_122_code 49 = .ok (.if_icmp .ge 48, 3) := by decide +kernel
theorem dX12_open_52 : decode prog_14_method_122_code 52 = .ok (.iload_n 2, 1) := by decide +kernel
theorem dX12_open_53 : decode prog_14_method_122_code 53 = .ok (.ifCond .ne 44, 3) := by decide +kernel
theorem dX12_open_56 : decode prog_14_method_122_code 56 = .ok (.aload_n 0, 1) := by decide +kernel
theorem dX12_open_57 : decode prog_14_method_122_code 57 = .ok (.getfield 230, 3) := by decide +kernel
theorem dX12_open_60 : decode prog_14_method_122_code 60 = .ok (.iload_n 3, 1) := by decide +kernel
theorem dX12_open_61 : decode prog_14_method_122_code 61 = .ok (.iaload, 1) := by decide +kernel
theorem dX12_open_62 : decode prog_14_method_122_code 62 = .ok (.iload_n 1, 1) := by decide +kernel
theorem dX12_open_63 : decode prog_14_method_122_code 63 = .ok (.if_icmp .ne 26, 3) := by decide +kernel
theorem dX12_open_66 : decode prog_14_method_122_code 66 = .ok (.iload_n 3, 1) := by decide +kernel
theorem dX12_open_67 : decode prog_14_method_122_code 67 = .ok (.aload_n 0, 1) := by decide +kernel
theorem dX12_open_68 : decode prog_14_method_122_code 68 = .ok (.getfield 242, 3) := by decide +kernel
theorem dX12_open_71 : decode prog_14_method_122_code 71 = .ok (.iload_n 1, 1) := by decide +kernel
theorem dX12_open_72 : decode prog_14_method_122_code 72 = .ok (.iaload, 1) := by decide +kernel
theorem dX12_open_73 : decode prog_14_method_122_code 73 = .ok (.if_icmp .eq 16, 3) := by decide +kernel
theorem dX12_open_76 : decode prog_14_method_122_code 76 = .ok (.aload_n 0, 1) := by decide +kernel
theorem dX12_open_77 : decode prog_14_method_122_code 77 = .ok (.iload_n 3, 1) := by decide +kernel
theorem dX12_open_78 : decode prog_14_method_122_code 78 = .ok (.invokevirtual 638, 3) := by decide +kernel
theorem dX12_open_81 : decode prog_14_method_122_code 81 = .ok (.iconst 1, 1) := by decide +kernel
theorem dX12_open_82 : decode prog_14_method_122_code 82 = .ok (.if_icmp .ne 7, 3) := by decide +kernel
theorem dX12_open_85 : decode prog_14_method_122_code 85 = .ok (.iconst 1, 1) := by decide +kernel
theorem dX12_open_86 : decode prog_14_method_122_code 86 = .ok (.goto 4, 3) := by decide +kernel
theorem dX12_open_89 : decode prog_14_method_122_code 89 = .ok (.iconst 0, 1) := by decide +kernel
theorem dX12_open_90 : decode prog_14_method_122_code 90 = .ok (.istore_n 2, 1) := by decide +kernel
theorem dX12_open_91 : decode prog_14_method_122_code 91 = .ok (.iinc 3 1, 3) := by decide +kernel
theorem dX12_open_94 : decode prog_14_method_122_code 94 = .ok (.goto (-50), 3) := by decide +kernel
theorem dX12_open_97 : decode prog_14_method_122_code 97 = .ok (.iload_n 2, 1) := by decide +kernel
theorem dX12_open_98 : decode prog_14_method_122_code 98 = .ok (.ifCond .ne 5, 3) := by decide +kernel
theorem dX12_open_101 : decode prog_14_method_122_code 101 = .ok (.iconst 0, 1) := by decide +kernel
theorem dX12_open_102 : decode prog_14_method_122_code 102 = .ok (.ireturn, 1) := by decide +kernel
theorem dX12_open_103 : decode prog_14_method_122_code 103 = .ok (.aload_n 0, 1) := by decide +kernel
theorem dX12_open_104 : decode prog_14_method_122_code 104 = .ok (.aload_n 0, 1) := by decide +kernel
theorem dX12_open_105 : decode prog_14_method_122_code 105 = .ok (.getfield 344, 3) := by decide +kernel
theorem dX12_open_108 : decode prog_14_method_122_code 108 = .ok (.bipush 9, 2) := by decide +kernel
theorem dX12_open_110 : decode prog_14_method_122_code 110 = .ok (.invokevirtual 493, 3) := by decide +kernel
theorem dX12_open_113 : decode prog_14_method_122_code 113 = .ok (.aload_n 0, 1) := by decide +kernel
theorem dX12_open_114 : decode prog_14_method_122_code 114 = .ok (.getfield 647, 3) := by decide +kernel
theorem dX12_open_117 : decode prog_14_method_122_code 117 = .ok (.invokestatic 414, 3) := by decide +kernel
theorem dX12_open_120 : decode prog_14_method_122_code 120 = .ok (.istore_n 3, 1) := by decide +kernel
theorem dX12_open_121 : decode prog_14_method_122_code 121 = .ok (.aload_n 0, 1) := by decide +kernel
theorem dX12_open_122 : decode prog_14_method_122_code 122 = .ok (.dup, 1) := by decide +kernel
theorem dX12_open_123 : decode prog_14_method_122_code 123 = .ok (.getfield 647, 3) := by decide +kernel
theorem dX12_open_126 : decode prog_14_method_122_code 126 = .ok (.iload_n 3, 1) := by decide +kernel
theorem dX12_open_127 : decode prog_14_method_122_code 127 = .ok (.isub, 1) := by decide +kernel
theorem dX12_open_128 : decode prog_14_method_122_code 128 = .ok (.putfield 647, 3) := by decide +kernel
theorem dX12_open_131 : decode prog_14_method_122_code 131 = .ok (.aload_n 0, 1) := by decide +kernel
theorem dX12_open_132 : decode prog_14_method_122_code 132 = .ok (.getfield 239, 3) := by decide +kernel
theorem dX12_open_135 : decode prog_14_method_122_code 135 = .ok (.aload_n 0, 1) := by decide +kernel
theorem dX12_open_136 : decode prog_14_method_122_code 136 = .ok (.getfield 242, 3) := by decide +kernel
theorem dX12_open_139 : decode prog_14_method_122_code 139 = .ok (.iload_n 1, 1) := by decide +kernel
theorem dX12_open_140 : decode prog_14_method_122_code 140 = .ok (.iaload, 1) := by decide +kernel
theorem dX12_open_141 : decode prog_14_method_122_code 141 = .ok (.dup2, 1) := by decide +kernel
theorem dX12_open_142 : decode prog_14_method_122_code 142 = .ok (.iaload, 1) := by decide +kernel
theorem dX12_open_143 : decode prog_14_method_122_code 143 = .ok (.iload_n 3, 1) := by decide +kernel
theorem dX12_open_144 : decode prog_14_method_122_code 144 = .ok (.iadd, 1) := by decide +kernel
theorem dX12_open_145 : decode prog_14_method_122_code 145 = .ok (.iastore, 1) := by decide +kernel
theorem dX12_open_146 : decode prog_14_method_122_code 146 = .ok (.iconst 0, 1) := by decide +kernel
theorem dX12_open_147 : decode prog_14_method_122_code 147 = .ok (.istore 4, 2) := by decide +kernel
theorem dX12_open_149 : decode prog_14_method_122_code 149 = .ok (.iload 4, 2) := by decide +kernel
theorem dX12_open_151 : decode prog_14_method_122_code 151 = .ok (.aload_n 0, 1) := by decide +kernel
theorem dX12_open_152 : decode prog_14_method_122_code 152 = .ok (.getfield 635, 3) := by decide +kernel
theorem dX12_open_155 : decode prog_14_method_122_code 155 = .ok (.if_icmp .ge 28, 3) := by decide +kernel
theorem dX12_open_158 : decode prog_14_method_122_code 158 = .ok (.aload_n 0, 1) := by decide +kernel
theorem dX12_open_159 : decode prog_14_method_122_code 159 = .ok (.getfield 230, 3) := by decide +kernel
theorem dX12_open_162 : decode prog_14_method_122_code 162 = .ok (.iload 4, 2) := by decide +kernel
theorem dX12_open_164 : decode prog_14_method_122_code 164 = .ok (.iaload, 1) := by decide +kernel
theorem dX12_open_165 : decode prog_14_method_122_code 165 = .ok (.iload_n 1, 1) := by decide +kernel
theorem dX12_open_166 : decode prog_14_method_122_code 166 = .ok (.if_icmp .ne 11, 3) := by decide +kernel
theorem dX12_open_169 : decode prog_14_method_122_code 169 = .ok (.aload_n 0, 1) := by decide +kernel
theorem dX12_open_170 : decode prog_14_method_122_code 170 = .ok (.getfield 236, 3) := by decide +kernel
theorem dX12_open_173 : decode prog_14_method_122_code 173 = .ok (.iload 4, 2) := by decide +kernel
theorem dX12_open_175 : decode prog_14_method_122_code 175 = .ok (.iconst 0, 1) := by decide +kernel
theorem dX12_open_176 : decode prog_14_method_122_code 176 = .ok (.iastore, 1) := by decide +kernel
theorem dX12_open_177 : decode prog_14_method_122_code 177 = .ok (.iinc 4 1, 3) := by decide +kernel
theorem dX12_open_180 : decode prog_14_method_122_code 180 = .ok (.goto (-31), 3) := by decide +kernel
theorem dX12_open_183 : decode prog_14_method_122_code 183 = .ok (.aload_n 0, 1) := by decide +kernel
theorem dX12_open_184 : decode prog_14_method_122_code 184 = .ok (.getfield 242, 3) := by decide +kernel
theorem dX12_open_187 : decode prog_14_method_122_code 187 = .ok (.iload_n 1, 1) := by decide +kernel
theorem dX12_open_188 : decode prog_14_method_122_code 188 = .ok (.iconst (-1), 1) := by decide +kernel
theorem dX12_open_189 : decode prog_14_method_122_code 189 = .ok (.iastore, 1) := by decide +kernel
theorem dX12_open_190 : decode prog_14_method_122_code 190 = .ok (.iconst 1, 1) := by decide +kernel
theorem dX12_open_191 : decode prog_14_method_122_code 191 = .ok (.ireturn, 1) := by decide +kernel
abbrev A_X12_open_44 (l : Launch) (E : bE) (Q : (Int × bM) → Prop) (v1 : Int) : (Int × Int × bM) → Prop := (fun t : Int × Int × bM => V l E xX12_open (0, 0) 44 [(0, bR 11), (1, bI v1), (2, bI (t.1)), (3, bI (t.2.1))] [] t.2.2 (b_pI Q))
abbrev X_X12_open_44 (l : Launch) (E : bE) (Q : (Int × bM) → Prop) (v1 : Int) : (Int × bM) → Prop := (fun t : Int × bM => V l E xX12_open (0, 0) 97 [(0, bR 11), (1, bI v1), (2, bI (t.1))] [] t.2 (b_pI Q))
noncomputable def F_X12_open_s44 (v1 : Int) (v2 : Int) (v3 : Int) (M : bM) : Option ((Int × Int × bM) ⊕ (Int × bM)) :=
  if (M 11 106) ≤ v3 then (some (.inr (v2, M))) else (if v2 = 0 then (b_g (0 ≤ v3 ∧ v3 < 30) (if (M 232 v3) = v1 then (b_g (0 ≤ v1 ∧ v1 < 60) (if v3 = (M 236 v1) then (b_g (b_i32 (v3 + 1)) (some (.inl (0, (v3 + 1), M)))) else (b_bind (F_X12_worthOf v3 M) (fun t => b_two t (fun x17 M18 => if x17 = 1 then (b_g (b_i32 (v3 + 1)) (some (.inl (1, (v3 + 1), M18)))) else (b_g (b_i32 (v3 + 1)) (some (.inl (0, (v3 + 1), M18))))))))) else (b_g (b_i32 (v3 + 1)) (some (.inl (0, (v3 + 1), M)))))) else (some (.inr (v2, M))))
theorem t_X12_open_s44 {l : Launch} {E : bE} {Q : (Int × bM) → Prop} {v1 : Int} {v2 : Int} {v3 : Int} {M : bM} (h : b_wp (F_X12_open_s44 v1 v2 v3 M) (Sum.elim (A_X12_open_44 l E Q v1) (X_X12_open_44 l E Q v1))) : V l E xX12_open (0, 0) 44 [(0, bR 11), (1, bI v1), (2, bI v2), (3, bI v3)] [] M (b_pI Q) := by
  unfold F_X12_open_s44 at h
  refine v_iload_n (f := 3) 3 rfl dX12_open_44 ?_
  refine v_aload_n (f := 0) 0 rfl dX12_open_45 ?_
  refine v_getI (kf := 106) (kz := 106) rfl kd_11 rfl ⟨by decide, by decide⟩ rfl wf_12_635 dX12_open_46 ?_
  refine v_icmp_ge (tgt := 97) dX12_open_49 (by decide) (fun c9 => ?_) (fun c9 => ?_)
  · replace h := b_wp_t c9 h
    refine v_sub (ls2 := [(0, bR _), (1, bI _), (2, bI _)]) [0, 1, 2] rfl ?_
    exact h
  · replace h := b_wp_f c9 h
    refine v_iload_n (f := 2) 2 rfl dX12_open_52 ?_
    refine v_if_ne (tgt := 97) dX12_open_53 (by decide) (fun c10 => ?_) (fun c10 => ?_)
    · replace h := b_wp_f c10 h
      refine v_sub (ls2 := [(0, bR _), (1, bI _), (2, bI _)]) [0, 1, 2] rfl ?_
      exact h
    · replace h := b_wp_t c10 h
      obtain ⟨g11, h⟩ := b_wp_g h
      refine v_aload_n (f := 0) 0 rfl dX12_open_56 ?_
      refine v_getR (kf := 109) (kz := 109) rfl kd_11 rfl ⟨by decide, by decide⟩ rfl wf_12_230 dX12_open_57 ?_
      refine v_iload_n (f := 3) 3 rfl dX12_open_60 ?_
      refine v_iaload kd_232 g11 (by decide) dX12_open_61 ?_
      refine v_iload_n (f := 1) 1 rfl dX12_open_62 ?_
      refine v_icmp_ne (tgt := 89) dX12_open_63 (by decide) (fun c12 => ?_) (fun c12 => ?_)
      · replace h := b_wp_f c12 h
        obtain ⟨g13, h⟩ := b_wp_g h
        refine v_iconst ⟨by decide, by decide⟩ dX12_open_89 ?_
        refine v_istore_n (g := 2) (i := 2) (ls' := [(2, bI _), (0, bR _), (1, bI _), (3, bI _)]) rfl (by decide) dX12_open_90 rfl ?_
        refine v_iincN (ls' := [(3, bI _), (2, bI _), (0, bR _), (1, bI _)]) 3 rfl (by decide) g13 dX12_open_91 rfl ?_
        refine v_goto (tgt := 44) dX12_open_94 (by decide) ?_
        refine v_sub (ls2 := [(0, bR _), (1, bI _), (2, bI _), (3, bI _)]) [2, 3, 1, 0] rfl ?_
        exact h
      · replace h := b_wp_t c12 h
        obtain ⟨g14, h⟩ := b_wp_g h
        refine v_iload_n (f := 3) 3 rfl dX12_open_66 ?_
        refine v_aload_n (f := 0) 0 rfl dX12_open_67 ?_
        refine v_getR (kf := 113) (kz := 113) rfl kd_11 rfl ⟨by decide, by decide⟩ rfl wf_12_242 dX12_open_68 ?_
        refine v_iload_n (f := 1) 1 rfl dX12_open_71 ?_
        refine v_iaload kd_236 g14 (by decide) dX12_open_72 ?_
        refine v_icmp_eq (tgt := 89) dX12_open_73 (by decide) (fun c15 => ?_) (fun c15 => ?_)
        · replace h := b_wp_t c15 h
          obtain ⟨g16, h⟩ := b_wp_g h
          refine v_iconst ⟨by decide, by decide⟩ dX12_open_89 ?_
          refine v_istore_n (g := 2) (i := 2) (ls' := [(2, bI _), (0, bR _), (1, bI _), (3, bI _)]) rfl (by decide) dX12_open_90 rfl ?_
          refine v_iincN (ls' := [(3, bI _), (2, bI _), (0, bR _), (1, bI _)]) 3 rfl (by decide) g16 dX12_open_91 rfl ?_
          refine v_goto (tgt := 44) dX12_open_94 (by decide) ?_
          refine v_sub (ls2 := [(0, bR _), (1, bI _), (2, bI _), (3, bI _)]) [2, 3, 1, 0] rfl ?_
          exact h
        · replace h := b_wp_f c15 h
          refine v_aload_n (f := 0) 0 rfl dX12_open_76 ?_
          refine v_iload_n (f := 3) 3 rfl dX12_open_77 ?_
          refine v_cVI (nA := 1) (As := [bI _]) (ix := 638) (cf_X12_worthOf (b_wp_b h)) rfl kd_11 rfl rfl wc_X12_worthOf wm_12_638 wi_X12_worthOf ws_X12_worthOf wn_12 ⟨by decide, by decide, by decide⟩ rfl ⟨by decide, by decide⟩ ⟨by decide, by decide⟩ (Nat.le_of_ble_eq_true rfl) dX12_open_78 (fun x17 M18 h => ?_)
          replace h := b_wp_two h
          refine v_iconst ⟨by decide, by decide⟩ dX12_open_81 ?_
          refine v_icmp_ne (tgt := 89) dX12_open_82 (by decide) (fun c19 => ?_) (fun c19 => ?_)
          · replace h := b_wp_f c19 h
            obtain ⟨g20, h⟩ := b_wp_g h
            refine v_iconst ⟨by decide, by decide⟩ dX12_open_89 ?_
            refine v_istore_n (g := 2) (i := 2) (ls' := [(2, bI _), (0, bR _), (1, bI _), (3, bI _)]) rfl (by decide) dX12_open_90 rfl ?_
            refine v_iincN (ls' := [(3, bI _), (2, bI _), (0, bR _), (1, bI _)]) 3 rfl (by decide) g20 dX12_open_91 rfl ?_
            refine v_goto (tgt := 44) dX12_open_94 (by decide) ?_
            refine v_sub (ls2 := [(0, bR _), (1, bI _), (2, bI _), (3, bI _)]) [2, 3, 1, 0] rfl ?_
            exact h
          · replace h := b_wp_t c19 h
            obtain ⟨g21, h⟩ := b_wp_g h
            refine v_iconst ⟨by decide, by decide⟩ dX12_open_85 ?_
            refine v_goto (tgt := 90) dX12_open_86 (by decide) ?_
            refine v_istore_n (g := 2) (i := 2) (ls' := [(2, bI _), (0, bR _), (1, bI _), (3, bI _)]) rfl (by decide) dX12_open_90 rfl ?_
            refine v_iincN (ls' := [(3, bI _), (2, bI _), (0, bR _), (1, bI _)]) 3 rfl (by decide) g21 dX12_open_91 rfl ?_
            refine v_goto (tgt := 44) dX12_open_94 (by decide) ?_
            refine v_sub (ls2 := [(0, bR _), (1, bI _), (2, bI _), (3, bI _)]) [2, 3, 1, 0] rfl ?_
            exact h
theorem l_X12_open_44 {l : Launch} {E : bE} {Q : (Int × bM) → Prop} {v1 : Int} {s : Int × Int × bM} (h : b_wp (b_loop (fun t => F_X12_open_s44 v1 t.1 t.2.1 t.2.2) s) (X_X12_open_44 l E Q v1)) : A_X12_open_44 l E Q v1 s := b_loop_wp (fun t h => t_X12_open_s44 h) s h
abbrev A_X12_open_149 (l : Launch) (E : bE) (Q : (Int × bM) → Prop) (v1 : Int) : (Int × bM) → Prop := (fun t : Int × bM => V l E xX12_open (0, 0) 149 [(0, bR 11), (1, bI v1), (4, bI (t.1))] [] t.2 (b_pI Q))
abbrev X_X12_open_149 (l : Launch) (E : bE) (Q : (Int × bM) → Prop) (v1 : Int) : (bM) → Prop := (fun t : bM => V l E xX12_open (0, 0) 183 [(0, bR 11), (1, bI v1)] [] t (b_pI Q))
noncomputable def F_X12_open_s149 (v1 : Int) (v4 : Int) (M : bM) : Option ((Int × bM) ⊕ (bM)) :=
  if (M 11 106) ≤ v4 then (some (.inr (M))) else (b_g (0 ≤ v4 ∧ v4 < 30) (if (M 232 v4) = v1 then (b_g (0 ≤ v4 ∧ v4 < 30) (b_let (b_up M 234 v4 0) (fun M36 => b_g (b_i32 (v4 + 1)) (some (.inl ((v4 + 1), M36)))))) else (b_g (b_i32 (v4 + 1)) (some (.inl ((v4 + 1), M))))))
theorem t_X12_open_s149 {l : Launch} {E : bE} {Q : (Int × bM) → Prop} {v1 : Int} {v4 : Int} {M : bM} (h : b_wp (F_X12_open_s149 v1 v4 M) (Sum.elim (A_X12_open_149 l E Q v1) (X_X12_open_149 l E Q v1))) : V l E xX12_open (0, 0) 149 [(0, bR 11), (1, bI v1), (4, bI v4)] [] M (b_pI Q) := by
  unfold F_X12_open_s149 at h
  refine v_iload (i := 4) 2 rfl dX12_open_149 ?_
  refine v_aload_n (f := 0) 0 rfl dX12_open_151 ?_
  refine v_getI (kf := 106) (kz := 106) rfl kd_11 rfl ⟨by decide, by decide⟩ rfl wf_12_635 dX12_open_152 ?_
  refine v_icmp_ge (tgt := 183) dX12_open_155 (by decide) (fun c31 => ?_) (fun c31 => ?_)
  · replace h := b_wp_t c31 h
    refine v_sub (ls2 := [(0, bR _), (1, bI _)]) [0, 1] rfl ?_
    exact h
  · replace h := b_wp_f c31 h
    obtain ⟨g32, h⟩ := b_wp_g h
    refine v_aload_n (f := 0) 0 rfl dX12_open_158 ?_
    refine v_getR (kf := 109) (kz := 109) rfl kd_11 rfl ⟨by decide, by decide⟩ rfl wf_12_230 dX12_open_159 ?_
    refine v_iload (i := 4) 2 rfl dX12_open_162 ?_
    refine v_iaload kd_232 g32 (by decide) dX12_open_164 ?_
    refine v_iload_n (f := 1) 1 rfl dX12_open_165 ?_
    refine v_icmp_ne (tgt := 177) dX12_open_166 (by decide) (fun c33 => ?_) (fun c33 => ?_)
    · replace h := b_wp_f c33 h
      obtain ⟨g34, h⟩ := b_wp_g h
      refine v_iincN (ls' := [(4, bI _), (0, bR _), (1, bI _)]) 2 rfl (by decide) g34 dX12_open_177 rfl ?_
      refine v_goto (tgt := 149) dX12_open_180 (by decide) ?_
      refine v_sub (ls2 := [(0, bR _), (1, bI _), (4, bI _)]) [1, 2, 0] rfl ?_
      exact h
    · replace h := b_wp_t c33 h
      obtain ⟨g35, h⟩ := b_wp_g h
      refine v_aload_n (f := 0) 0 rfl dX12_open_169 ?_
      refine v_getR (kf := 111) (kz := 111) rfl kd_11 rfl ⟨by decide, by decide⟩ rfl wf_12_236 dX12_open_170 ?_
      refine v_iload (i := 4) 2 rfl dX12_open_173 ?_
      refine v_iconst ⟨by decide, by decide⟩ dX12_open_175 ?_
      refine v_iastore kd_234 g35 (by decide) dX12_open_176 ?_
      replace h := b_wp_l h
      obtain ⟨g37, h⟩ := b_wp_g h
      refine v_iincN (ls' := [(4, bI _), (0, bR _), (1, bI _)]) 2 rfl (by decide) g37 dX12_open_177 rfl ?_
      refine v_goto (tgt := 149) dX12_open_180 (by decide) ?_
      refine v_sub (ls2 := [(0, bR _), (1, bI _), (4, bI _)]) [1, 2, 0] rfl ?_
      exact h
theorem l_X12_open_149 {l : Launch} {E : bE} {Q : (Int × bM) → Prop} {v1 : Int} {s : Int × bM} (h : b_wp (b_loop (fun t => F_X12_open_s149 v1 t.1 t.2) s) (X_X12_open_149 l E Q v1)) : A_X12_open_149 l E Q v1 s := b_loop_wp (fun t h => t_X12_open_s149 h) s h
noncomputable def F_X12_open_b183 (v1 : Int) (M : bM) : Option (Int × bM) :=
  b_g (0 ≤ v1 ∧ v1 < 60) (b_let (b_up M 236 v1 (-1)) (fun M39 => some (1, M39)))
theorem t_X12_open_b183 {l : Launch} {E : bE} {Q : (Int × bM) → Prop} {v1 : Int} {M : bM} (h : b_wp (F_X12_open_b183 v1 M) (Q)) : V l E xX12_open (0, 0) 183 [(0, bR 11), (1, bI v1)] [] M (b_pI Q) := by
  unfold F_X12_open_b183 at h
  obtain ⟨g38, h⟩ := b_wp_g h
  refine v_aload_n (f := 0) 0 rfl dX12_open_183 ?_
  refine v_getR (kf := 113) (kz := 113) rfl kd_11 rfl ⟨by decide, by decide⟩ rfl wf_12_242 dX12_open_184 ?_
  refine v_iload_n (f := 1) 1 rfl dX12_open_187 ?_
  refine v_iconst ⟨by decide, by decide⟩ dX12_open_188 ?_
  refine v_iastore kd_236 g38 (by decide) dX12_open_189 ?_
  replace h := b_wp_l h
  refine v_iconst ⟨by decide, by decide⟩ dX12_open_190 ?_
  refine v_ireturn rfl dX12_open_191 ⟨by decide, by decide⟩ ?_
  exact ⟨_, rfl, h⟩
noncomputable def F_X12_open_b97 (v1 : Int) (v2 : Int) (M : bM) : Option (Int × bM) :=
  if v2 = 0 then (some (0, M)) else (b_bind (F_X12_ruleOn (M 11 11) 9 M) (fun x23 => b_bind (F_X12_lesser x23 (M 11 107) M) (fun x24 => b_g (b_i32 ((M 11 107) - x24)) (b_let (b_up M 11 107 ((M 11 107) - x24)) (fun M26 => b_g ((0 ≤ v1 ∧ v1 < 60) ∧ (0 ≤ (M26 236 v1) ∧ (M26 236 v1) < 30) ∧ (b_i32 ((M26 235 (M26 236 v1)) + x24))) (b_let (b_up M26 235 (M26 236 v1) ((M26 235 (M26 236 v1)) + x24)) (fun M30 => b_bind (b_loop (fun t => F_X12_open_s149 v1 t.1 t.2) (0, M30)) (fun t => F_X12_open_b183 v1 t))))))))
theorem t_X12_open_b97 {l : Launch} {E : bE} {Q : (Int × bM) → Prop} {v1 : Int} {v2 : Int} {M : bM} (h : b_wp (F_X12_open_b97 v1 v2 M) (Q)) : V l E xX12_open (0, 0) 97 [(0, bR 11), (1, bI v1), (2, bI v2)] [] M (b_pI Q) := by
  unfold F_X12_open_b97 at h
  refine v_iload_n (f := 2) 2 rfl dX12_open_97 ?_
  refine v_if_ne (tgt := 103) dX12_open_98 (by decide) (fun c22 => ?_) (fun c22 => ?_)
  · replace h := b_wp_f c22 h
    refine v_aload_n (f := 0) 0 rfl dX12_open_103 ?_
    refine v_aload_n (f := 0) 0 rfl dX12_open_104 ?_
    refine v_getI (kf := 11) (kz := 11) rfl kd_11 rfl ⟨by decide, by decide⟩ rfl wf_12_344 dX12_open_105 ?_
    refine v_bipush ⟨by decide, by decide⟩ (by decide) dX12_open_108 ?_
    refine v_cVIp (nA := 2) (As := [bI _, bI _]) (ix := 493) (cf_X12_ruleOn (b_wp_b h)) rfl kd_11 rfl rfl wc_X12_ruleOn wm_12_493 wi_X12_ruleOn ws_X12_ruleOn wn_12 ⟨by decide, by decide, by decide⟩ rfl ⟨by decide, by decide⟩ ⟨by decide, by decide⟩ (Nat.le_of_ble_eq_true rfl) dX12_open_110 (fun x23 h => ?_)
    refine v_aload_n (f := 0) 0 rfl dX12_open_113 ?_
    refine v_getI (kf := 107) (kz := 107) rfl kd_11 rfl ⟨by decide, by decide⟩ rfl wf_12_647 dX12_open_114 ?_
    refine v_cSIp (nA := 2) (As := [bI _, bI _]) (ix := 414) (cf_X12_lesser (b_wp_b h)) rfl wc_X12_lesser wm_12_414 wi_X12_lesser wn_12 ⟨by decide, by decide, by decide⟩ rfl ⟨by decide, by decide⟩ ⟨by decide, by decide⟩ (Nat.le_of_ble_eq_true rfl) dX12_open_117 (fun x24 h => ?_)
    obtain ⟨g25, h⟩ := b_wp_g h
    refine v_istore_n (g := 3) (i := 3) (ls' := [(3, bI _), (0, bR _), (1, bI _), (2, bI _)]) rfl (by decide) dX12_open_120 rfl ?_
    refine v_aload_n (f := 0) 1 rfl dX12_open_121 ?_
    refine v_dup rfl dX12_open_122 ?_
    refine v_getI (kf := 107) (kz := 107) rfl kd_11 rfl ⟨by decide, by decide⟩ rfl wf_12_647 dX12_open_123 ?_
    refine v_iload_n (f := 3) 0 rfl dX12_open_126 ?_
    refine v_isubN g25 dX12_open_127 ?_
    refine v_putI (kf := 107) (kz := 107) rfl kd_11 rfl ⟨by decide, by decide⟩ rfl wf_12_647 rfl rfl dX12_open_128 ?_
    replace h := b_wp_l h
    obtain ⟨⟨g27, g28, g29⟩, h⟩ := b_wp_g h
    refine v_aload_n (f := 0) 1 rfl dX12_open_131 ?_
    refine v_getR (kf := 112) (kz := 112) rfl kd_11 rfl ⟨by decide, by decide⟩ rfl wf_12_239 dX12_open_132 ?_
    refine v_aload_n (f := 0) 1 rfl dX12_open_135 ?_
    refine v_getR (kf := 113) (kz := 113) rfl kd_11 rfl ⟨by decide, by decide⟩ rfl wf_12_242 dX12_open_136 ?_
    refine v_iload_n (f := 1) 2 rfl dX12_open_139 ?_
    refine v_iaload kd_236 g27 (by decide) dX12_open_140 ?_
    refine v_dup2 rfl rfl dX12_open_141 ?_
    refine v_iaload kd_235 g28 (by decide) dX12_open_142 ?_
    refine v_iload_n (f := 3) 0 rfl dX12_open_143 ?_
    refine v_iaddN g29 dX12_open_144 ?_
    refine v_iastore kd_235 g28 (by decide) dX12_open_145 ?_
    replace h := b_wp_l h
    refine v_iconst ⟨by decide, by decide⟩ dX12_open_146 ?_
    refine v_istore (i := 4) (ls' := [(4, bI _), (3, bI _), (0, bR _), (1, bI _), (2, bI _)]) (by decide) dX12_open_147 rfl ?_
    refine v_sub (ls2 := [(0, bR _), (1, bI _), (4, bI _)]) [2, 3, 0] rfl ?_
    refine l_X12_open_149 (b_wp_m (fun t h => ?_) (b_wp_b h))
    show V l E xX12_open (0, 0) 183 [(0, bR 11), (1, bI _)] [] _ (b_pI Q)
    exact t_X12_open_b183 h
  · replace h := b_wp_t c22 h
    refine v_iconst ⟨by decide, by decide⟩ dX12_open_101 ?_
    refine v_ireturn rfl dX12_open_102 ⟨by decide, by decide⟩ ?_
    exact ⟨_, rfl, h⟩
noncomputable def F_X12_open_b41 (v1 : Int) (u0 : Int) (M : bM) : Option (Int × bM) :=
  b_bind (b_loop (fun t => F_X12_open_s44 v1 t.1 t.2.1 t.2.2) (u0, 0, M)) (fun t => F_X12_open_b97 v1 (t.1) (t.2))
theorem t_X12_open_b41 {l : Launch} {E : bE} {Q : (Int × bM) → Prop} {v1 : Int} {u0 : Int} {M : bM} (h : b_wp (F_X12_open_b41 v1 u0 M) (Q)) : V l E xX12_open (0, 0) 41 [(0, bR 11), (1, bI v1)] [bI u0] M (b_pI Q) := by
  unfold F_X12_open_b41 at h
  refine v_istore_n (g := 2) (i := 2) (ls' := [(2, bI _), (0, bR _), (1, bI _)]) rfl (by decide) dX12_open_41 rfl ?_
  refine v_iconst ⟨by decide, by decide⟩ dX12_open_42 ?_
  refine v_istore_n (g := 3) (i := 3) (ls' := [(3, bI _), (2, bI _), (0, bR _), (1, bI _)]) rfl (by decide) dX12_open_43 rfl ?_
  refine v_sub (ls2 := [(0, bR _), (1, bI _), (2, bI _), (3, bI _)]) [2, 3, 1, 0] rfl ?_
  refine l_X12_open_44 (b_wp_m (fun t h => ?_) (b_wp_b h))
  show V l E xX12_open (0, 0) 97 [(0, bR 11), (1, bI _), (2, bI _)] [] _ (b_pI Q)
  exact t_X12_open_b97 h
noncomputable def F_X12_open (v1 : Int) (M : bM) : Option (Int × bM) :=
  b_bind (F_X12_isLot v1 M) (fun x1 => if x1 = 0 then (some ((-2), M)) else (b_bind (F_X12_isDoubt v1 M) (fun x3 => if x3 = 0 then (some ((-4), M)) else (b_g (0 ≤ v1 ∧ v1 < 60) (b_bind (F_X12_worthOf (M 236 v1) M) (fun t => b_two t (fun x6 M7 => if x6 = 3 then (F_X12_open_b41 v1 1 M7) else (F_X12_open_b41 v1 0 M7))))))))
theorem t_X12_open {l : Launch} {E : bE} {Q : (Int × bM) → Prop} {v1 : Int} {M : bM} (h : b_wp (F_X12_open v1 M) (Q)) : V l E xX12_open (0, 0) 0 [(0, bR 11), (1, bI v1)] [] M (b_pI Q) := by
  unfold F_X12_open at h
  refine v_aload_n (f := 0) 0 rfl dX12_open_0 ?_
  refine v_iload_n (f := 1) 1 rfl dX12_open_1 ?_
  refine v_cVIp (nA := 1) (As := [bI _]) (ix := 385) (cf_X12_isLot (b_wp_b h)) rfl kd_11 rfl rfl wc_X12_isLot wm_12_385 wi_X12_isLot ws_X12_isLot wn_12 ⟨by decide, by decide, by decide⟩ rfl ⟨by decide, by decide⟩ ⟨by decide, by decide⟩ (Nat.le_of_ble_eq_true rfl) dX12_open_2 (fun x1 h => ?_)
  refine v_if_ne (tgt := 11) dX12_open_5 (by decide) (fun c2 => ?_) (fun c2 => ?_)
  · replace h := b_wp_f c2 h
    refine v_aload_n (f := 0) 0 rfl dX12_open_11 ?_
    refine v_iload_n (f := 1) 1 rfl dX12_open_12 ?_
    refine v_cVIp (nA := 1) (As := [bI _]) (ix := 641) (cf_X12_isDoubt (b_wp_b h)) rfl kd_11 rfl rfl wc_X12_isDoubt wm_12_641 wi_X12_isDoubt ws_X12_isDoubt wn_12 ⟨by decide, by decide, by decide⟩ rfl ⟨by decide, by decide⟩ ⟨by decide, by decide⟩ (Nat.le_of_ble_eq_true rfl) dX12_open_13 (fun x3 h => ?_)
    refine v_if_ne (tgt := 22) dX12_open_16 (by decide) (fun c4 => ?_) (fun c4 => ?_)
    · replace h := b_wp_f c4 h
      obtain ⟨g5, h⟩ := b_wp_g h
      refine v_aload_n (f := 0) 0 rfl dX12_open_22 ?_
      refine v_aload_n (f := 0) 0 rfl dX12_open_23 ?_
      refine v_getR (kf := 113) (kz := 113) rfl kd_11 rfl ⟨by decide, by decide⟩ rfl wf_12_242 dX12_open_24 ?_
      refine v_iload_n (f := 1) 1 rfl dX12_open_27 ?_
      refine v_iaload kd_236 g5 (by decide) dX12_open_28 ?_
      refine v_cVI (nA := 1) (As := [bI _]) (ix := 638) (cf_X12_worthOf (b_wp_b h)) rfl kd_11 rfl rfl wc_X12_worthOf wm_12_638 wi_X12_worthOf ws_X12_worthOf wn_12 ⟨by decide, by decide, by decide⟩ rfl ⟨by decide, by decide⟩ ⟨by decide, by decide⟩ (Nat.le_of_ble_eq_true rfl) dX12_open_29 (fun x6 M7 h => ?_)
      replace h := b_wp_two h
      refine v_iconst ⟨by decide, by decide⟩ dX12_open_32 ?_
      refine v_icmp_ne (tgt := 40) dX12_open_33 (by decide) (fun c8 => ?_) (fun c8 => ?_)
      · replace h := b_wp_f c8 h
        refine v_iconst ⟨by decide, by decide⟩ dX12_open_40 ?_
        exact t_X12_open_b41 h
      · replace h := b_wp_t c8 h
        refine v_iconst ⟨by decide, by decide⟩ dX12_open_36 ?_
        refine v_goto (tgt := 41) dX12_open_37 (by decide) ?_
        exact t_X12_open_b41 h
    · replace h := b_wp_t c4 h
      refine v_bipush ⟨by decide, by decide⟩ (by decide) dX12_open_19 ?_
      refine v_ireturn rfl dX12_open_21 ⟨by decide, by decide⟩ ?_
      exact ⟨_, rfl, h⟩
  · replace h := b_wp_t c2 h
    refine v_bipush ⟨by decide, by decide⟩ (by decide) dX12_open_8 ?_
    refine v_ireturn rfl dX12_open_10 ⟨by decide, by decide⟩ ?_
    exact ⟨_, rfl, h⟩
theorem cf_X12_open {l : Launch} {E : bE} {M : bM} {v1 : Int} {Q : (Int × bM) → Prop} (h : b_wp (F_X12_open v1 M) Q) : b_C l E xX12_open yX12_open [bR 11, bI v1] M (b_pI Q) := b_met (by decide) ⟨rfl, rfl⟩ (Nat.le_of_ble_eq_true rfl) (fun _ _ => t_X12_open h)
abbrev xX12_fund : bX := ("BurntHallModel", prog_14_method_123_code, 2, (Option.some Jvm.ClassFile.FieldType.int), b_rm 2 0 0, 0, "fund")
abbrev yX12_fund : MethodName := ⟨"BurntHallModel", "fund", "(I)I"⟩
theorem dX12_fund_0 : decode prog_14_method_123_code 0 = .ok (.iload_n 1, 1) := by decide +kernel
theorem dX12_fund_1 : decode prog_14_method_123_code 1 = .ok (.iconst 1, 1) := by decide +kernel
theorem dX12_fund_2 : decode prog_14_method_123_code 2 = .ok (.ldc_w 622, 3) := by decide +kernel
theorem dX12_fund_5 : decode prog_14_method_123_code 5 = .ok (.invokestatic 279, 3) := by decide +kernel
theorem dX12_fund_8 : decode prog_14_method_123_code 8 = .ok (.ifCond .eq 15, 3) := by decide +kernel
theorem dX12_fund_11 : decode prog_14_method_123_code 11 = .ok (.aload_n 0, 1) := by decide +kernel
theorem dX12_fund_12 : decode prog_14_method_123_code 12 = .ok (.getfield 647, 3) := by decide +kernel
theorem dX12_fund_15 : decode prog_14_method_123_code 15 = .ok (.iload_n 1, 1) := by decide +kernel
theorem dX12_fund_16 : decode prog_14_method_123_code 16 = .ok (.iadd, 1) := by decide +kernel
theorem dX12_fund_17 : decode prog_14_method_123_code 17 = .ok (.ldc_w 650, 3) := by decide +kernel
theorem dX12_fund_20 : decode prog_14_method_123_code 20 = .ok (.if_icmp .le 6, 3) := by decide +kernel
theorem dX12_fund_23 : decode prog_14_method_123_code 23 = .ok (.bipush (-2), 2) := by decide +kernel
theorem dX12_fund_25 : decode prog_14_method_123_code 25 = .ok (.ireturn, 1) := by decide +kernel
theorem dX12_fund_26 : decode prog_14_method_123_code 26 = .ok (.aload_n 0, 1) := by decide +kernel
theorem dX12_fund_27 : decode prog_14_method_123_code 27 = .ok (.dup, 1) := by decide +kernel
theorem dX12_fund_28 : decode prog_14_method_123_code 28 = .ok (.getfield 647, 3) := by decide +kernel
theorem dX12_fund_31 : decode prog_14_method_123_code 31 = .ok (.iload_n 1, 1) := by decide +kernel
theorem dX12_fund_32 : decode prog_14_method_123_code 32 = .ok (.iadd, 1) := by decide +kernel
theorem dX12_fund_33 : decode prog_14_method_123_code 33 = .ok (.putfield 647, 3) := by decide +kernel
theorem dX12_fund_36 : decode prog_14_method_123_code 36 = .ok (.aload_n 0, 1) := by decide +kernel
theorem dX12_fund_37 : decode prog_14_method_123_code 37 = .ok (.getfield 647, 3) := by decide +kernel
theorem dX12_fund_40 : decode prog_14_method_123_code 40 = .ok (.ireturn, 1) := by decide +kernel
noncomputable def F_X12_fund (v1 : Int) (M : bM) : Option (Int × bM) :=
  b_bind (F_X12_in v1 1 99999 M) (fun x1 => if x1 = 0 then (some ((-2), M)) else (b_g (b_i32 ((M 11 107) + v1)) (if ((M 11 107) + v1) ≤ 9999999 then (b_g (b_i32 ((M 11 107) + v1)) (b_let (b_up M 11 107 ((M 11 107) + v1)) (fun M6 => some ((M6 11 107), M6)))) else (some ((-2), M)))))
theorem t_X12_fund {l : Launch} {E : bE} {Q : (Int × bM) → Prop} {v1 : Int} {M : bM} (h : b_wp (F_X12_fund v1 M) (Q)) : V l E xX12_fund (0, 0) 0 [(0, bR 11), (1, bI v1)] [] M (b_pI Q) := by
  unfold F_X12_fund at h
  refine v_iload_n (f := 1) 1 rfl dX12_fund_0 ?_
  refine v_iconst ⟨by decide, by decide⟩ dX12_fund_1 ?_
  refine v_ldcw (n := 99999) ⟨by decide, by decide⟩ wk_12_622 dX12_fund_2 ?_
  refine v_cSIp (nA := 3) (As := [bI _, bI _, bI _]) (ix := 279) (cf_X12_in (b_wp_b h)) rfl wc_X12_in wm_12_279 wi_X12_in wn_12 ⟨by decide, by decide, by decide⟩ rfl ⟨by decide, by decide⟩ ⟨by decide, by decide⟩ (Nat.le_of_ble_eq_true rfl) dX12_fund_5 (fun x1 h => ?_)
  refine v_if_eq (tgt := 23) dX12_fund_8 (by decide) (fun c2 => ?_) (fun c2 => ?_)
  · replace h := b_wp_t c2 h
    refine v_bipush ⟨by decide, by decide⟩ (by decide) dX12_fund_23 ?_
    refine v_ireturn rfl dX12_fund_25 ⟨by decide, by decide⟩ ?_
    exact ⟨_, rfl, h⟩
  · replace h := b_wp_f c2 h
    obtain ⟨g3, h⟩ := b_wp_g h
    refine v_aload_n (f := 0) 0 rfl dX12_fund_11 ?_
    refine v_getI (kf := 107) (kz := 107) rfl kd_11 rfl ⟨by decide, by decide⟩ rfl wf_12_647 dX12_fund_12 ?_
    refine v_iload_n (f := 1) 1 rfl dX12_fund_15 ?_
    refine v_iaddN g3 dX12_fund_16 ?_
    refine v_ldcw (n := 9999999) ⟨by decide, by decide⟩ wk_12_650 dX12_fund_17 ?_
    refine v_icmp_le (tgt := 26) dX12_fund_20 (by decide) (fun c4 => ?_) (fun c4 => ?_)
    · replace h := b_wp_t c4 h
      obtain ⟨g5, h⟩ := b_wp_g h
      refine v_aload_n (f := 0) 0 rfl dX12_fund_26 ?_
      refine v_dup rfl dX12_fund_27 ?_
      refine v_getI (kf := 107) (kz := 107) rfl kd_11 rfl ⟨by decide, by decide⟩ rfl wf_12_647 dX12_fund_28 ?_
      refine v_iload_n (f := 1) 1 rfl dX12_fund_31 ?_
      refine v_iaddN g5 dX12_fund_32 ?_
      refine v_putI (kf := 107) (kz := 107) rfl kd_11 rfl ⟨by decide, by decide⟩ rfl wf_12_647 rfl rfl dX12_fund_33 ?_
      replace h := b_wp_l h
      refine v_aload_n (f := 0) 0 rfl dX12_fund_36 ?_
      refine v_getI (kf := 107) (kz := 107) rfl kd_11 rfl ⟨by decide, by decide⟩ rfl wf_12_647 dX12_fund_37 ?_
      refine v_ireturn rfl dX12_fund_40 ⟨by decide, by decide⟩ ?_
      exact ⟨_, rfl, h⟩
    · replace h := b_wp_f c4 h
      refine v_bipush ⟨by decide, by decide⟩ (by decide) dX12_fund_23 ?_
      refine v_ireturn rfl dX12_fund_25 ⟨by decide, by decide⟩ ?_
      exact ⟨_, rfl, h⟩
theorem cf_X12_fund {l : Launch} {E : bE} {M : bM} {v1 : Int} {Q : (Int × bM) → Prop} (h : b_wp (F_X12_fund v1 M) Q) : b_C l E xX12_fund yX12_fund [bR 11, bI v1] M (b_pI Q) := b_met (by decide) ⟨rfl, rfl⟩ (Nat.le_of_ble_eq_true rfl) (fun _ _ => t_X12_fund h)
abbrev xX12_place : bX := ("BurntHallModel", prog_14_method_124_code, 4, (Option.some Jvm.ClassFile.FieldType.int), b_rm 2 0 0, 0, "place")
abbrev yX12_place : MethodName := ⟨"BurntHallModel", "place", "(III)I"⟩
theorem dX12_place_0 : decode prog_14_method_124_code 0 = .ok (.iload_n 1, 1) := by decide +kernel
theorem dX12_place_1 : decode prog_14_method_124_code 1 = .ok (.iconst 1, 1) := by decide +kernel
theorem dX12_place_2 : decode prog_14_method_124_code 2 = .ok (.bipush 99, 2) := by decide +kernel
theorem dX12_place_4 : decode prog_14_method_124_code 4 = .ok (.invokestatic 279, 3) := by decide +kernel
theorem dX12_place_7 : decode prog_14_method_124_code 7 = .ok (.ifCond .eq 27, 3) := by decide +kernel
theorem dX12_place_10 : decode prog_14_method_124_code 10 = .ok (.iload_n 2, 1) := by decide +kernel
theorem dX12_place_11 : decode prog_14_method_124_code 11 = .ok (.iconst 0, 1) := by decide +kernel
theorem dX12_place_12 : decode prog_14_method_124_code 12 = .ok (.aload_n 0, 1) := by decide +kernel
theorem dX12_place_13 : decode prog_14_method_124_code 13 = .ok (.getfield 496, 3) := by decide +kernel
theorem dX12_place_16 : decode prog_14_method_124_code 16 = .ok (.iconst 1, 1) := by decide +kernel
theorem dX12_place_17 : decode prog_14_method_124_code 17 = .ok (.isub, 1) := by decide +kernel
theorem dX12_place_18 : decode prog_14_method_124_code 18 = .ok (.invokestatic 279, 3) := by decide +kernel
theorem dX12_place_21 : decode prog_14_method_124_code 21 = .ok (.ifCond .eq 13, 3) := by decide +kernel
theorem dX12_place_24 : decode prog_14_method_124_code 24 = .ok (.iload_n 3, 1) := by decide +kernel
theorem dX12_place_25 : decode prog_14_method_124_code 25 = .ok (.iconst 1, 1) := by decide +kernel
theorem dX12_place_26 : decode prog_14_method_124_code 26 = .ok (.bipush 99, 2) := by decide +kernel
theorem dX12_place_28 : decode prog_14_method_124_code 28 = .ok (.invokestatic 279, 3) := by decide +kernel
theorem dX12_place_31 : decode prog_14_method_124_code 31 = .ok (.ifCond .ne 6, 3) := by decide +kernel
theorem dX12_place_34 : decode prog_14_method_124_code 34 = .ok (.bipush (-2), 2) := by decide +kernel
theorem dX12_place_36 : decode prog_14_method_124_code 36 = .ok (.ireturn, 1) := by decide +kernel
theorem dX12_place_37 : decode prog_14_method_124_code 37 = .ok (.aload_n 0, 1) := by decide +kernel
theorem dX12_place_38 : decode prog_14_method_124_code 38 = .ok (.getfield 651, 3) := by decide +kernel
theorem dX12_place_41 : decode prog_14_method_124_code 41 = .ok (.bipush 12, 2) := by decide +kernel
theorem dX12_place_43 : decode prog_14_method_124_code 43 = .ok (.if_icmp .ne 6, 3) := by decide +kernel
theorem dX12_place_46 : decode prog_14_method_124_code 46 = .ok (.bipush (-3), 2) := by decide +kernel
theorem dX12_place_48 : decode prog_14_method_124_code 48 = .ok (.ireturn, 1) := by decide +kernel
theorem dX12_place_49 : decode prog_14_method_124_code 49 = .ok (.aload_n 0, 1) := by decide +kernel
theorem dX12_place_50 : decode prog_14_method_124_code 50 = .ok (.getfield 257, 3) := by decide +kernel
theorem dX12_place_53 : decode prog_14_method_124_code 53 = .ok (.aload_n 0, 1) := by decide +kernel
theorem dX12_place_54 : decode prog_14_method_124_code 54 = .ok (.getfield 651, 3) := by decide +kernel
theorem dX12_place_57 : decode prog_14_method_124_code 57 = .ok (.iload_n 1, 1) := by decide +kernel
theorem dX12_place_58 : decode prog_14_method_124_code 58 = .ok (.iastore, 1) := by decide +kernel
theorem dX12_place_59 : decode prog_14_method_124_code 59 = .ok (.aload_n 0, 1) := by decide +kernel
theorem dX12_place_60 : decode prog_14_method_124_code 60 = .ok (.getfield 260, 3) := by decide +kernel
theorem dX12_place_63 : decode prog_14_method_124_code 63 = .ok (.aload_n 0, 1) := by decide +kernel
theorem dX12_place_64 : decode prog_14_method_124_code 64 = .ok (.getfield 651, 3) := by decide +kernel
theorem dX12_place_67 : decode prog_14_method_124_code 67 = .ok (.iload_n 2, 1) := by decide +kernel
theorem dX12_place_68 : decode prog_14_method_124_code 68 = .ok (.iastore, 1) := by decide +kernel
theorem dX12_place_69 : decode prog_14_method_124_code 69 = .ok (.aload_n 0, 1) := by decide +kernel
theorem dX12_place_70 : decode prog_14_method_124_code 70 = .ok (.getfield 263, 3) := by decide +kernel
theorem dX12_place_73 : decode prog_14_method_124_code 73 = .ok (.aload_n 0, 1) := by decide +kernel
theorem dX12_place_74 : decode prog_14_method_124_code 74 = .ok (.getfield 651, 3) := by decide +kernel
theorem dX12_place_77 : decode prog_14_method_124_code 77 = .ok (.iload_n 3, 1) := by decide +kernel
theorem dX12_place_78 : decode prog_14_method_124_code 78 = .ok (.iastore, 1) := by decide +kernel
theorem dX12_place_79 : decode prog_14_method_124_code 79 = .ok (.aload_n 0, 1) := by decide +kernel
theorem dX12_place_80 : decode prog_14_method_124_code 80 = .ok (.dup, 1) := by decide +kernel
theorem dX12_place_81 : decode prog_14_method_124_code 81 = .ok (.getfield 651, 3) := by decide +kernel
theorem dX12_place_84 : decode prog_14_method_124_code 84 = .ok (.iconst 1, 1) := by decide +kernel
theorem dX12_place_85 : decode prog_14_method_124_code 85 = .ok (.iadd, 1) := by decide +kernel
theorem dX12_place_86 : decode prog_14_method_124_code 86 = .ok (.putfield 651, 3) := by decide +kernel
theorem dX12_place_89 : decode prog_14_method_124_code 89 = .ok (.aload_n 0, 1) := by decide +kernel
theorem dX12_place_90 : decode prog_14_method_124_code 90 = .ok (.iconst (-1), 1) := by decide +kernel
theorem dX12_place_91 : decode prog_14_method_124_code 91 = .ok (.putfield 266, 3) := by decide +kernel
theorem dX12_place_94 : decode prog_14_method_124_code 94 = .ok (.aload_n 0, 1) := by decide +kernel
theorem dX12_place_95 : decode prog_14_method_124_code 95 = .ok (.iconst (-1), 1) := by decide +kernel
theorem dX12_place_96 : decode prog_14_method_124_code 96 = .ok (.putfield 269, 3) := by decide +kernel
theorem dX12_place_99 : decode prog_14_method_124_code 99 = .ok (.aload_n 0, 1) := by decide +kernel
theorem dX12_place_100 : decode prog_14_method_124_code 100 = .ok (.getfield 651, 3) := by decide +kernel
theorem dX12_place_103 : decode prog_14_method_124_code 103 = .ok (.iconst 1, 1) := by decide +kernel
theorem dX12_place_104 : decode prog_14_method_124_code 104 = .ok (.isub, 1) := by decide +kernel
theorem dX12_place_105 : decode prog_14_method_124_code 105 = .ok (.ireturn, 1) := by decide +kernel
noncomputable def F_X12_place (v1 : Int) (v2 : Int) (v3 : Int) (M : bM) : Option (Int × bM) :=
  b_bind (F_X12_in v1 1 99 M) (fun x1 => if x1 = 0 then (some ((-2), M)) else (b_g (b_i32 ((M 11 52) - 1)) (b_bind (F_X12_in v2 0 ((M 11 52) - 1) M) (fun x4 => if x4 = 0 then (some ((-2), M)) else (b_bind (F_X12_in v3 1 99 M) (fun x6 => if x6 = 0 then (some ((-2), M)) else (if (M 11 118) = 12 then (some ((-3), M)) else (b_g (0 ≤ (M 11 118) ∧ (M 11 118) < 12) (b_let (b_up M 241 (M 11 118) v1) (fun M10 => b_g (0 ≤ (M10 11 118) ∧ (M10 11 118) < 12) (b_let (b_up M10 242 (M10 11 118) v2) (fun M12 => b_g (0 ≤ (M12 11 118) ∧ (M12 11 118) < 12) (b_let (b_up M12 243 (M12 11 118) v3) (fun M14 => b_g (b_i32 ((M14 11 118) + 1)) (b_let (b_up M14 11 118 ((M14 11 118) + 1)) (fun M16 => b_let (b_up M16 11 122 (-1)) (fun M17 => b_let (b_up M17 11 123 (-1)) (fun M18 => b_g (b_i32 ((M18 11 118) - 1)) (some (((M18 11 118) - 1), M18))))))))))))))))))))
theorem t_X12_place {l : Launch} {E : bE} {Q : (Int × bM) → Prop} {v1 : Int} {v2 : Int} {v3 : Int} {M : bM} (h : b_wp (F_X12_place v1 v2 v3 M) (Q)) : V l E xX12_place (0, 0) 0 [(0, bR 11), (1, bI v1), (2, bI v2), (3, bI v3)] [] M (b_pI Q) := by
  unfold F_X12_place at h
  refine v_iload_n (f := 1) 1 rfl dX12_place_0 ?_
  refine v_iconst ⟨by decide, by decide⟩ dX12_place_1 ?_
  refine v_bipush ⟨by decide, by decide⟩ (by decide) dX12_place_2 ?_
  refine v_cSIp (nA := 3) (As := [bI _, bI _, bI _]) (ix := 279) (cf_X12_in (b_wp_b h)) rfl wc_X12_in wm_12_279 wi_X12_in wn_12 ⟨by decide, by decide, by decide⟩ rfl ⟨by decide, by decide⟩ ⟨by decide, by decide⟩ (Nat.le_of_ble_eq_true rfl) dX12_place_4 (fun x1 h => ?_)
  refine v_if_eq (tgt := 34) dX12_place_7 (by decide) (fun c2 => ?_) (fun c2 => ?_)
  · replace h := b_wp_t c2 h
    refine v_bipush ⟨by decide, by decide⟩ (by decide) dX12_place_34 ?_
    refine v_ireturn rfl dX12_place_36 ⟨by decide, by decide⟩ ?_
    exact ⟨_, rfl, h⟩
  · replace h := b_wp_f c2 h
    obtain ⟨g3, h⟩ := b_wp_g h
    refine v_iload_n (f := 2) 2 rfl dX12_place_10 ?_
    refine v_iconst ⟨by decide, by decide⟩ dX12_place_11 ?_
    refine v_aload_n (f := 0) 0 rfl dX12_place_12 ?_
    refine v_getI (kf := 52) (kz := 52) rfl kd_11 rfl ⟨by decide, by decide⟩ rfl wf_12_496 dX12_place_13 ?_
    refine v_iconst ⟨by decide, by decide⟩ dX12_place_16 ?_
    refine v_isubN g3 dX12_place_17 ?_
    refine v_cSIp (nA := 3) (As := [bI _, bI _, bI _]) (ix := 279) (cf_X12_in (b_wp_b h)) rfl wc_X12_in wm_12_279 wi_X12_in wn_12 ⟨by decide, by decide, by decide⟩ rfl ⟨by decide, by decide⟩ ⟨by decide, by decide⟩ (Nat.le_of_ble_eq_true rfl) dX12_place_18 (fun x4 h => ?_)
    refine v_if_eq (tgt := 34) dX12_place_21 (by decide) (fun c5 => ?_) (fun c5 => ?_)
    · replace h := b_wp_t c5 h
      refine v_bipush ⟨by decide, by decide⟩ (by decide) dX12_place_34 ?_
      refine v_ireturn rfl dX12_place_36 ⟨by decide, by decide⟩ ?_
      exact ⟨_, rfl, h⟩
    · replace h := b_wp_f c5 h
      refine v_iload_n (f := 3) 3 rfl dX12_place_24 ?_
      refine v_iconst ⟨by decide, by decide⟩ dX12_place_25 ?_
      refine v_bipush ⟨by decide, by decide⟩ (by decide) dX12_place_26 ?_
      refine v_cSIp (nA := 3) (As := [bI _, bI _, bI _]) (ix := 279) (cf_X12_in (b_wp_b h)) rfl wc_X12_in wm_12_279 wi_X12_in wn_12 ⟨by decide, by decide, by decide⟩ rfl ⟨by decide, by decide⟩ ⟨by decide, by decide⟩ (Nat.le_of_ble_eq_true rfl) dX12_place_28 (fun x6 h => ?_)
      refine v_if_ne (tgt := 37) dX12_place_31 (by decide) (fun c7 => ?_) (fun c7 => ?_)
      · replace h := b_wp_f c7 h
        refine v_aload_n (f := 0) 0 rfl dX12_place_37 ?_
        refine v_getI (kf := 118) (kz := 118) rfl kd_11 rfl ⟨by decide, by decide⟩ rfl wf_12_651 dX12_place_38 ?_
        refine v_bipush ⟨by decide, by decide⟩ (by decide) dX12_place_41 ?_
        refine v_icmp_ne (tgt := 49) dX12_place_43 (by decide) (fun c8 => ?_) (fun c8 => ?_)
        · replace h := b_wp_f c8 h
          obtain ⟨g9, h⟩ := b_wp_g h
          refine v_aload_n (f := 0) 0 rfl dX12_place_49 ?_
          refine v_getR (kf := 119) (kz := 119) rfl kd_11 rfl ⟨by decide, by decide⟩ rfl wf_12_257 dX12_place_50 ?_
          refine v_aload_n (f := 0) 0 rfl dX12_place_53 ?_
          refine v_getI (kf := 118) (kz := 118) rfl kd_11 rfl ⟨by decide, by decide⟩ rfl wf_12_651 dX12_place_54 ?_
          refine v_iload_n (f := 1) 1 rfl dX12_place_57 ?_
          refine v_iastore kd_241 g9 (by decide) dX12_place_58 ?_
          replace h := b_wp_l h
          obtain ⟨g11, h⟩ := b_wp_g h
          refine v_aload_n (f := 0) 0 rfl dX12_place_59 ?_
          refine v_getR (kf := 120) (kz := 120) rfl kd_11 rfl ⟨by decide, by decide⟩ rfl wf_12_260 dX12_place_60 ?_
          refine v_aload_n (f := 0) 0 rfl dX12_place_63 ?_
          refine v_getI (kf := 118) (kz := 118) rfl kd_11 rfl ⟨by decide, by decide⟩ rfl wf_12_651 dX12_place_64 ?_
          refine v_iload_n (f := 2) 2 rfl dX12_place_67 ?_
          refine v_iastore kd_242 g11 (by decide) dX12_place_68 ?_
          replace h := b_wp_l h
          obtain ⟨g13, h⟩ := b_wp_g h
          refine v_aload_n (f := 0) 0 rfl dX12_place_69 ?_
          refine v_getR (kf := 121) (kz := 121) rfl kd_11 rfl ⟨by decide, by decide⟩ rfl wf_12_263 dX12_place_70 ?_
          refine v_aload_n (f := 0) 0 rfl dX12_place_73 ?_
          refine v_getI (kf := 118) (kz := 118) rfl kd_11 rfl ⟨by decide, by decide⟩ rfl wf_12_651 dX12_place_74 ?_
          refine v_iload_n (f := 3) 3 rfl dX12_place_77 ?_
          refine v_iastore kd_243 g13 (by decide) dX12_place_78 ?_
          replace h := b_wp_l h
          obtain ⟨g15, h⟩ := b_wp_g h
          refine v_aload_n (f := 0) 0 rfl dX12_place_79 ?_
          refine v_dup rfl dX12_place_80 ?_
          refine v_getI (kf := 118) (kz := 118) rfl kd_11 rfl ⟨by decide, by decide⟩ rfl wf_12_651 dX12_place_81 ?_
          refine v_iconst ⟨by decide, by decide⟩ dX12_place_84 ?_
          refine v_iaddN g15 dX12_place_85 ?_
          refine v_putI (kf := 118) (kz := 118) rfl kd_11 rfl ⟨by decide, by decide⟩ rfl wf_12_651 rfl rfl dX12_place_86 ?_
          replace h := b_wp_l h
          refine v_aload_n (f := 0) 0 rfl dX12_place_89 ?_
          refine v_iconst ⟨by decide, by decide⟩ dX12_place_90 ?_
          refine v_putI (kf := 122) (kz := 122) rfl kd_11 rfl ⟨by decide, by decide⟩ rfl wf_12_266 rfl rfl dX12_place_91 ?_
          replace h := b_wp_l h
          refine v_aload_n (f := 0) 0 rfl dX12_place_94 ?_
          refine v_iconst ⟨by decide, by decide⟩ dX12_place_95 ?_
          refine v_putI (kf := 123) (kz := 123) rfl kd_11 rfl ⟨by decide, by decide⟩ rfl wf_12_269 rfl rfl dX12_place_96 ?_
          replace h := b_wp_l h
          obtain ⟨g19, h⟩ := b_wp_g h
          refine v_aload_n (f := 0) 0 rfl dX12_place_99 ?_
          refine v_getI (kf := 118) (kz := 118) rfl kd_11 rfl ⟨by decide, by decide⟩ rfl wf_12_651 dX12_place_100 ?_
          refine v_iconst ⟨by decide, by decide⟩ dX12_place_103 ?_
          refine v_isubN g19 dX12_place_104 ?_
          refine v_ireturn rfl dX12_place_105 ⟨by decide, by decide⟩ ?_
          exact ⟨_, rfl, h⟩
        · replace h := b_wp_t c8 h
          refine v_bipush ⟨by decide, by decide⟩ (by decide) dX12_place_46 ?_
          refine v_ireturn rfl dX12_place_48 ⟨by decide, by decide⟩ ?_
          exact ⟨_, rfl, h⟩
      · replace h := b_wp_t c7 h
        refine v_bipush ⟨by decide, by decide⟩ (by decide) dX12_place_34 ?_
        refine v_ireturn rfl dX12_place_36 ⟨by decide, by decide⟩ ?_
        exact ⟨_, rfl, h⟩
theorem cf_X12_place {l : Launch} {E : bE} {M : bM} {v1 : Int} {v2 : Int} {v3 : Int} {Q : (Int × bM) → Prop} (h : b_wp (F_X12_place v1 v2 v3 M) Q) : b_C l E xX12_place yX12_place [bR 11, bI v1, bI v2, bI v3] M (b_pI Q) := b_met (by decide) ⟨rfl, rfl⟩ (Nat.le_of_ble_eq_true rfl) (fun _ _ => t_X12_place h)
abbrev xX12_isSureWith : bX := ("BurntHallModel", prog_14_method_125_code, 7, (Option.some Jvm.ClassFile.FieldType.boolean), b_rm 3 0 0, 0, "isSureWith")
abbrev yX12_isSureWith : MethodName := ⟨"BurntHallModel", "isSureWith", "(I)Z"⟩
theorem dX12_isSureWith_0 : decode prog_14_method_125_code 0 = .ok (.aload_n 0, 1) := by decide +kernel
theorem dX12_isSureWith_1 : decode prog_14_method_125_code 1 = .ok (.getfield 580, 3) := by decide +kernel
theorem dX12_isSureWith_4 : decode prog_14_method_125_code 4 = .ok (.aload_n 0, 1) := by decide +kernel
theorem dX12_isSureWith_5 : decode prog_14_method_125_code 5 = .ok (.aload_n 0, 1) := by decide +kernel
theorem dX12_isSureWith_6 : decode prog_14_method_125_code 6 = .ok (.getfield 344, 3) := by decide +kernel
theorem dX12_isSureWith_9 : decode prog_14_method_125_code 9 = .ok (.iconst 3, 1) := by decide +kernel
theorem dX12_isSureWith_10 : decode prog_14_method_125_code 10 = .ok (.invokevirtual 493, 3) := by decide +kernel
theorem dX12_isSureWith_13 : decode prog_14_method_125_code 13 = .ok (.if_icmp .le 5, 3) := by decide +kernel
theorem dX12_isSureWith_16 : decode prog_14_method_125_code 16 = .ok (.iconst 0, 1) := by decide +kernel
theorem dX12_isSureWith_17 : decode prog_14_method_125_code 17 = .ok (.ireturn, 1) := by decide +kernel
theorem dX12_isSureWith_18 : decode prog_14_method_125_code 18 = .ok (.iconst 0, 1) := by decide +kernel
theorem dX12_isSureWith_19 : decode prog_14_method_125_code 19 = .ok (.istore_n 2, 1) := by decide +kernel
theorem dX12_isSureWith_20 : decode prog_14_method_125_code 20 = .ok (.iload_n 2, 1) := by decide +kernel
theorem dX12_isSureWith_21 : decode prog_14_method_125_code 21 = .ok (.aload_n 0, 1) := by decide +kernel
theorem dX12_isSureWith_22 : decode prog_14_method_125_code 22 = .ok (.getfield 571, 3) := by decide +kernel
theorem dX12_isSureWith_25 : decode prog_14_method_125_code 25 = .ok (.if_icmp .ge 146, 3) := by decide +kernel
theorem dX12_isSureWith_28 : decode prog_14_method_125_code 28 = .ok (.aload_n 0, 1) := by decide +kernel
theorem dX12_isSureWith_29 : decode prog_14_method_125_code 29 = .ok (.getfield 191, 3) := by decide +kernel
theorem dX12_isSureWith_32 : decode prog_14_method_125_code 32 = .ok (.iload_n 2, 1) := by decide +kernel
theorem dX12_isSureWith_33 : decode prog_14_method_125_code 33 = .ok (.iaload, 1) := by decide +kernel
theorem dX12_isSureWith_34 : decode prog_14_method_125_code 34 = .ok (.istore_n 3, 1) := by decide +kernel
theorem dX12_isSureWith_35 : decode prog_14_method_125_code 35 = .ok (.aload_n 0, 1) := by decide +kernel
theorem dX12_isSureWith_36 : decode prog_14_method_125_code 36 = .ok (.iload_n 3, 1) := by decide +kernel
theorem dX12_isSureWith_37 : decode prog_14_method_125_code 37 = .ok (.invokevirtual 537, 3) := by decide +kernel
theorem dX12_isSureWith_40 : decode prog_14_method_125_code 40 = .ok (.istore 4, 2) := by decide +kernel
theorem dX12_isSureWith_42 : decode prog_14_method_125_code 42 = .ok (.aload_n 0, 1) := by decide +kernel
theorem dX12_isSureWith_43 : decode prog_14_method_125_code 43 = .ok (.getfield 161, 3) := by decide +kernel
theorem dX12_isSureWith_46 : decode prog_14_method_125_code 46 = .ok (.iconst 3, 1) := by decide +kernel
theorem dX12_isSureWith_47 : decode prog_14_method_125_code 47 = .ok (.iload_n 3, 1) := by decide +kernel
theorem dX12_isSureWith_48 : decode prog_14_method_125_code 48 = .ok (.imul, 1) := by decide +kernel
theorem dX12_isSureWith_49 : decode prog_14_method_125_code 49 = .ok (.iaload, 1) := by decide +kernel
theorem dX12_isSureWith_50 : decode prog_14_method_125_code 50 = .ok (.iconst (-1), 1) := by decide +kernel
theorem dX12_isSureWith_51 : decode prog_14_method_125_code 51 = .ok (.if_icmp .eq 35, 3) := by decide +kernel
theorem dX12_isSureWith_54 : decode prog_14_method_125_code 54 = .ok (.aload_n 0, 1) := by decide +kernel
theorem dX12_isSureWith_55 : decode prog_14_method_125_code 55 = .ok (.getfield 161, 3) := by decide +kernel
theorem dX12_isSureWith_58 : decode prog_14_method_125_code 58 = .ok (.iconst 3, 1) := by decide +kernel
theorem dX12_isSureWith_59 : decode prog_14_method_125_code 59 = .ok (.iload_n 3, 1) := by decide +kernel
theorem dX12_isSureWith_60 : decode prog_14_method_125_code 60 = .ok (.imul, 1) := by decide +kernel
theorem dX12_isSureWith_61 : decode prog_14_method_125_code 61 = .ok (.iconst 1, 1) := by decide +kernel
theorem dX12_isSureWith_62 : decode prog_14_method_125_code 62 = .ok (.iadd, 1) := by decide +kernel
theorem dX12_isSureWith_63 : decode prog_14_method_125_code 63 = .ok (.iaload, 1) := by decide +kernel
theorem dX12_isSureWith_64 : decode prog_14_method_125_code 64 = .ok (.iconst (-1), 1) := by decide +kernel
theorem dX12_isSureWith_65 : decode prog_14_method_125_code 65 = .ok (.if_icmp .eq 21, 3) := by decide +kernel
theorem dX12_isSureWith_68 : decode prog_14_method_125_code 68 = .ok (.aload_n 0, 1) := by decide +kernel
theorem dX12_isSureWith_69 : decode prog_14_method_125_code 69 = .ok (.getfield 161, 3) := by decide +kernel
theorem dX12_isSureWith_72 : decode prog_14_method_125_code 72 = .ok (.iconst 3, 1) := by decide +kernel
theorem dX12_isSureWith_73 : decode prog_14_method_125_code 73 = .ok (.iload_n 3, 1) := by decide +kernel
theorem dX12_isSureWith_74 : decode prog_14_method_125_code 74 = .ok (.imul, 1) := by decide +kernel
theorem dX12_isSureWith_75 : decode prog_14_method_125_code 75 = .ok (.iconst 2, 1) := by decide +kernel
theorem dX12_isSureWith_76 : decode prog_14_method_125_code 76 = .ok (.iadd, 1) := by decide +kernel
theorem dX12_isSureWith_77 : decode prog_14_method_125_code 77 = .ok (.iaload, 1) := by decide +kernel
theorem dX12_isSureWith_78 : decode prog_14_method_125_code 78 = .ok (.iconst (-1), 1) := by decide +kernel
theorem dX12_isSureWith_79 : decode prog_14_method_125_code 79 = .ok (.if_icmp .eq 7, 3) := by decide +kernel
theorem dX12_isSureWith_82 : decode prog_14_method_125_code 82 = .ok (.iconst 1, 1) := by decide +kernel
theorem dX12_isSureWith_83 : decode prog_14_method_125_code 83 = .ok (.goto 4, 3) := by decide +kernel
theorem dX12_isSureWith_86 : decode prog_14_method_125_code 86 = .ok (.iconst 0, 1) := by decide +kernel
theorem dX12_isSureWith_87 : decode prog_14_method_125_code 87 = .ok (.istore 5, 2) := by decide +kernel
theorem dX12_isSureWith_89 : decode prog_14_method_125_code 89 = .ok (.iconst 0, 1) := by decide +kernel
theorem dX12_isSureWith_90 : decode prog_14_method_125_code 90 = .ok (.istore 6, 2) := by decide +kernel
theorem dX12_isSureWith_92 : decode prog_14_method_125_code 92 = .ok (.iload 6, 2) := by decide +kernel
theorem dX12_isSureWith_94 : decode prog_14_method_125_code 94 = .ok (.aload_n 0, 1) := by decide +kernel
theorem dX12_isSureWith_95 : decode prog_14_method_125_code 95 = .ok (.getfield 651, 3) := by decide +kernel
theorem dX12_isSureWith_98 : decode prog_14_method_125_code 98 = .ok (.if_icmp .ge 51, 3) := by decide +kernel
theorem dX12_isSureWith_101 : decode prog_14_method_125_code 101 = .ok (.iload 5, 2) := by decide +kernel
theorem dX12_isSureWith_103 : decode prog_14_method_125_code 103 = .ok (.ifCond .eq 46, 3) := by decide +kernel
theorem dX12_isSureWith_106 : decode prog_14_method_125_code 106 = .ok (.iload 4, 2) := by decide +kernel
theorem dX12_isSureWith_108 : decode prog_14_method_125_code 108 = .ok (.iload_n 1, 1) := by decide +kernel
theorem dX12_isSureWith_109 : decode prog_14_method_125_code 109 = .ok (.iload 6, 2) := by decide +kernel
theorem dX12_isSureWith_111 : decode prog_14_method_125_code 111 = .ok (.ishr, 1) := by decide +kernel
theorem dX12_isSureWith_112 : decode prog_14_method_125_code 112 = .ok (.iconst 1, 1) := by decide +kernel
theorem dX12_isSureWith_113 : decode prog_14_method_125_code 113 = .ok (.iand, 1) := by decide +kernel
theorem dX12_isSureWith_114 : decode prog_14_method_125_code 114 = .ok (.iconst 1, 1) := by decide +kernel
theorem dX12_isSureWith_115 : decode prog_14_method_125_code 115 = .ok (.if_icmp .ne 24, 3) := by decide +kernel
theorem dX12_isSureWith_118 : decode prog_14_method_125_code 118 = .ok (.aload_n 0, 1) := by decide +kernel
theorem dX12_isSureWith_119 : decode prog_14_method_125_code 119 = .ok (.getfield 260, 3) := by decide +kernel
theorem dX12_isSureWith_122 : decode prog_14_method_125_code 122 = .ok (.iload 6, 2) := by decide +kernel
theorem dX12_isSureWith_124 : decode prog_14_method_125_code 124 = .ok (.iaload, 1) := by decide +kernel
theorem dX12_isSureWith_125 : decode prog_14_method_125_code 125 = .ok (.iload_n 3, 1) := by decide +kernel
theorem dX12_isSureWith_126 : decode prog_14_method_125_code 126 = .ok (.if_icmp .ne 13, 3) := by decide +kernel
theorem dX12_isSureWith_129 : decode prog_14_method_125_code 129 = .ok (.aload_n 0, 1) := by decide +kernel
theorem dX12_isSureWith_130 : decode prog_14_method_125_code 130 = .ok (.getfield 263, 3) := by decide +kernel
theorem dX12_isSureWith_133 : decode prog_14_method_125_code 133 = .ok (.iload 6, 2) := by decide +kernel
theorem dX12_isSureWith_135 : decode prog_14_method_125_code 135 = .ok (.iaload, 1) := by decide +kernel
theorem dX12_isSureWith_136 : decode prog_14_method_125_code 136 = .ok (.goto 4, 3) := by decide +kernel
theorem dX12_isSureWith_139 : decode prog_14_method_125_code 139 = .ok (.iconst 0, 1) := by decide +kernel
theorem dX12_isSureWith_140 : decode prog_14_method_125_code 140 = .ok (.iadd, 1) := by decide +kernel
theorem dX12_isSureWith_141 : decode prog_14_method_125_code 141 = .ok (.istore 4, 2) := by decide +kernel
theorem dX12_isSureWith_143 : decode prog_14_method_125_code 143 = .ok (.iinc 6 1, 3) := by decide +kernel
theorem dX12_isSureWith_146 : decode prog_14_method_125_code 146 = .ok (.goto (-54), 3) := by decide +kernel
theorem dX12_isSureWith_149 : decode prog_14_method_125_code 149 = .ok (.iload 4, 2) := by decide +kernel
theorem dX12_isSureWith_151 : decode prog_14_method_125_code 151 = .ok (.aload_n 0, 1) := by decide +kernel
theorem dX12_isSureWith_152 : decode prog_14_method_125_code 152 = .ok (.aload_n 0, 1) := by decide +kernel
theorem dX12_isSureWith_153 : decode prog_14_method_125_code 153 = .ok (.getfield 344, 3) := by decide +kernel
theorem dX12_isSureWith_156 : decode prog_14_method_125_code 156 = .ok (.iconst 1, 1) := by decide +kernel
theorem dX12_isSureWith_157 : decode prog_14_method_125_code 157 = .ok (.invokevirtual 493, 3) := by decide +kernel
theorem dX12_isSureWith_160 : decode prog_14_method_125_code 160 = .ok (.if_icmp .ge 5, 3) := by decide +kernel
theorem dX12_isSureWith_163 : decode prog_14_method_125_code 163 = .ok (.iconst 0, 1) := by decide +kernel
theorem dX12_isSureWith_164 : decode prog_14_method_125_code 164 = .ok (.ireturn, 1) := by decide +kernel
theorem dX12_isSureWith_165 : decode prog_14_method_125_code 165 = .ok (.iinc 2 1, 3) := by decide +kernel
theorem dX12_isSureWith_168 : decode prog_14_method_125_code 168 = .ok (.goto (-148), 3) := by decide +kernel
theorem dX12_isSureWith_171 : decode prog_14_method_125_code 171 = .ok (.aload_n 0, 1) := by decide +kernel
theorem dX12_isSureWith_172 : decode prog_14_method_125_code 172 = .ok (.getfield 571, 3) := by decide +kernel
theorem dX12_isSureWith_175 : decode prog_14_method_125_code 175 = .ok (.ifCond .gt 18, 3) := by decide +kernel
theorem dX12_isSureWith_178 : decode prog_14_method_125_code 178 = .ok (.sipush 999, 3) := by decide +kernel
theorem dX12_isSureWith_181 : decode prog_14_method_125_code 181 = .ok (.aload_n 0, 1) := by decide +kernel
theorem dX12_isSureWith_182 : decode prog_14_method_125_code 182 = .ok (.aload_n 0, 1) := by decide +kernel
theorem dX12_isSureWith_183 : decode prog_14_method_125_code 183 = .ok (.getfield 344, 3) := by decide +kernel
theorem dX12_isSureWith_186 : decode prog_14_method_125_code 186 = .ok (.iconst 1, 1) := by decide +kernel
theorem dX12_isSureWith_187 : decode prog_14_method_125_code 187 = .ok (.invokevirtual 493, 3) := by decide +kernel
theorem dX12_isSureWith_190 : decode prog_14_method_125_code 190 = .ok (.if_icmp .lt 7, 3) := by decide +kernel
theorem dX12_isSureWith_193 : decode prog_14_method_125_code 193 = .ok (.iconst 1, 1) := by decide +kernel
theorem dX12_isSureWith_194 : decode prog_14_method_125_code 194 = .ok (.goto 4, 3) := by decide +kernel
theorem dX12_isSureWith_197 : decode prog_14_method_125_code 197 = .ok (.iconst 0, 1) := by decide +kernel
theorem dX12_isSureWith_198 : decode prog_14_method_125_code 198 = .ok (.ireturn, 1) := by decide +kernel
abbrev A_X12_isSureWith_20 (l : Launch) (E : bE) (Q : Int → Prop) (v1 : Int) (M : bM) : (Int) → Prop := (fun t : Int => V l E xX12_isSureWith (0, 0) 20 [(0, bR 11), (1, bI v1), (2, bI t)] [] M (b_pIp M Q))
abbrev X_X12_isSureWith_20 (l : Launch) (E : bE) (Q : Int → Prop) (v1 : Int) (M : bM) : ((Unit) ⊕ Int) → Prop := (Sum.elim (fun t : Unit => V l E xX12_isSureWith (0, 0) 171 [(0, bR 11)] [] M (b_pIp M Q)) Q)
abbrev A_X12_isSureWith_92 (l : Launch) (E : bE) (Q : Int → Prop) (v1 : Int) (v2 : Int) (v3 : Int) (v5 : Int) (M : bM) : (Int × Int) → Prop := (fun t : Int × Int => V l E xX12_isSureWith (0, 0) 92 [(0, bR 11), (1, bI v1), (2, bI v2), (3, bI v3), (4, bI (t.1)), (5, bI v5), (6, bI (t.2))] [] M (b_pIp M Q))
abbrev X_X12_isSureWith_92 (l : Launch) (E : bE) (Q : Int → Prop) (v1 : Int) (v2 : Int) (v3 : Int) (v5 : Int) (M : bM) : (Int) → Prop := (fun t : Int => V l E xX12_isSureWith (0, 0) 149 [(0, bR 11), (1, bI v1), (2, bI v2), (4, bI t)] [] M (b_pIp M Q))
noncomputable def F_X12_isSureWith_b140 (v1 : Int) (v2 : Int) (v3 : Int) (v5 : Int) (v6 : Int) (u0 : Int) (u1 : Int) (M : bM) : Option ((Int × Int) ⊕ (Int)) :=
  b_g ((b_i32 (u0 + u1)) ∧ (b_i32 (v6 + 1))) (some (.inl ((u0 + u1), (v6 + 1))))
theorem t_X12_isSureWith_b140 {l : Launch} {E : bE} {Q : Int → Prop} {v1 : Int} {v2 : Int} {v3 : Int} {v5 : Int} {v6 : Int} {u0 : Int} {u1 : Int} {M : bM} (h : b_wp (F_X12_isSureWith_b140 v1 v2 v3 v5 v6 u0 u1 M) (Sum.elim (A_X12_isSureWith_92 l E Q v1 v2 v3 v5 M) (X_X12_isSureWith_92 l E Q v1 v2 v3 v5 M))) : V l E xX12_isSureWith (0, 0) 140 [(0, bR 11), (1, bI v1), (2, bI v2), (3, bI v3), (5, bI v5), (6, bI v6)] [bI u1, bI u0] M (b_pIp M Q) := by
  unfold F_X12_isSureWith_b140 at h
  obtain ⟨⟨g13, g14⟩, h⟩ := b_wp_g h
  refine v_iaddN g13 dX12_isSureWith_140 ?_
  refine v_istore (i := 4) (ls' := [(4, bI _), (0, bR _), (1, bI _), (2, bI _), (3, bI _), (5, bI _), (6, bI _)]) (by decide) dX12_isSureWith_141 rfl ?_
  refine v_iincN (ls' := [(6, bI _), (4, bI _), (0, bR _), (1, bI _), (2, bI _), (3, bI _), (5, bI _)]) 6 rfl (by decide) g14 dX12_isSureWith_143 rfl ?_
  refine v_goto (tgt := 92) dX12_isSureWith_146 (by decide) ?_
  refine v_sub (ls2 := [(0, bR _), (1, bI _), (2, bI _), (3, bI _), (4, bI _), (5, bI _), (6, bI _)]) [2, 3, 4, 5, 1, 6, 0] rfl ?_
  exact h
noncomputable def F_X12_isSureWith_b139 (v1 : Int) (v2 : Int) (v3 : Int) (v5 : Int) (v6 : Int) (u0 : Int) (M : bM) : Option ((Int × Int) ⊕ (Int)) :=
  F_X12_isSureWith_b140 v1 v2 v3 v5 v6 u0 0 M
theorem t_X12_isSureWith_b139 {l : Launch} {E : bE} {Q : Int → Prop} {v1 : Int} {v2 : Int} {v3 : Int} {v5 : Int} {v6 : Int} {u0 : Int} {M : bM} (h : b_wp (F_X12_isSureWith_b139 v1 v2 v3 v5 v6 u0 M) (Sum.elim (A_X12_isSureWith_92 l E Q v1 v2 v3 v5 M) (X_X12_isSureWith_92 l E Q v1 v2 v3 v5 M))) : V l E xX12_isSureWith (0, 0) 139 [(0, bR 11), (1, bI v1), (2, bI v2), (3, bI v3), (5, bI v5), (6, bI v6)] [bI u0] M (b_pIp M Q) := by
  unfold F_X12_isSureWith_b139 at h
  refine v_iconst ⟨by decide, by decide⟩ dX12_isSureWith_139 ?_
  exact t_X12_isSureWith_b140 h
noncomputable def F_X12_isSureWith_s92 (v1 : Int) (v2 : Int) (v3 : Int) (v4 : Int) (v5 : Int) (v6 : Int) (M : bM) : Option ((Int × Int) ⊕ (Int)) :=
  if (M 11 118) ≤ v6 then (some (.inr (v4))) else (if v5 = 0 then (some (.inr (v4))) else (if (i_and (i_shr v1 v6) 1) = 1 then (b_g (0 ≤ v6 ∧ v6 < 12) (if (M 242 v6) = v3 then (b_g (0 ≤ v6 ∧ v6 < 12) (F_X12_isSureWith_b140 v1 v2 v3 v5 v6 v4 (M 243 v6) M)) else (F_X12_isSureWith_b139 v1 v2 v3 v5 v6 v4 M))) else (F_X12_isSureWith_b139 v1 v2 v3 v5 v6 v4 M)))
theorem t_X12_isSureWith_s92 {l : Launch} {E : bE} {Q : Int → Prop} {v1 : Int} {v2 : Int} {v3 : Int} {v4 : Int} {v5 : Int} {v6 : Int} {M : bM} (h : b_wp (F_X12_isSureWith_s92 v1 v2 v3 v4 v5 v6 M) (Sum.elim (A_X12_isSureWith_92 l E Q v1 v2 v3 v5 M) (X_X12_isSureWith_92 l E Q v1 v2 v3 v5 M))) : V l E xX12_isSureWith (0, 0) 92 [(0, bR 11), (1, bI v1), (2, bI v2), (3, bI v3), (4, bI v4), (5, bI v5), (6, bI v6)] [] M (b_pIp M Q) := by
  unfold F_X12_isSureWith_s92 at h
  refine v_iload (i := 6) 6 rfl dX12_isSureWith_92 ?_
  refine v_aload_n (f := 0) 0 rfl dX12_isSureWith_94 ?_
  refine v_getI (kf := 118) (kz := 118) rfl kd_11 rfl ⟨by decide, by decide⟩ rfl wf_12_651 dX12_isSureWith_95 ?_
  refine v_icmp_ge (tgt := 149) dX12_isSureWith_98 (by decide) (fun c10 => ?_) (fun c10 => ?_)
  · replace h := b_wp_t c10 h
    refine v_sub (ls2 := [(0, bR _), (1, bI _), (2, bI _), (4, bI _)]) [0, 1, 2, 4] rfl ?_
    exact h
  · replace h := b_wp_f c10 h
    refine v_iload (i := 5) 5 rfl dX12_isSureWith_101 ?_
    refine v_if_eq (tgt := 149) dX12_isSureWith_103 (by decide) (fun c11 => ?_) (fun c11 => ?_)
    · replace h := b_wp_t c11 h
      refine v_sub (ls2 := [(0, bR _), (1, bI _), (2, bI _), (4, bI _)]) [0, 1, 2, 4] rfl ?_
      exact h
    · replace h := b_wp_f c11 h
      refine v_iload (i := 4) 4 rfl dX12_isSureWith_106 ?_
      refine v_iload_n (f := 1) 1 rfl dX12_isSureWith_108 ?_
      refine v_iload (i := 6) 6 rfl dX12_isSureWith_109 ?_
      refine v_ishr (v := i_shr _ _) rfl dX12_isSureWith_111 ?_
      refine v_iconst ⟨by decide, by decide⟩ dX12_isSureWith_112 ?_
      refine v_iand (v := i_and _ _) rfl dX12_isSureWith_113 ?_
      refine v_iconst ⟨by decide, by decide⟩ dX12_isSureWith_114 ?_
      refine v_icmp_ne (tgt := 139) dX12_isSureWith_115 (by decide) (fun c12 => ?_) (fun c12 => ?_)
      · replace h := b_wp_f c12 h
        refine v_sub (ls2 := [(0, bR _), (1, bI _), (2, bI _), (3, bI _), (5, bI _), (6, bI _)]) [0, 1, 2, 3, 5, 6] rfl ?_
        exact t_X12_isSureWith_b139 h
      · replace h := b_wp_t c12 h
        obtain ⟨g15, h⟩ := b_wp_g h
        refine v_aload_n (f := 0) 0 rfl dX12_isSureWith_118 ?_
        refine v_getR (kf := 120) (kz := 120) rfl kd_11 rfl ⟨by decide, by decide⟩ rfl wf_12_260 dX12_isSureWith_119 ?_
        refine v_iload (i := 6) 6 rfl dX12_isSureWith_122 ?_
        refine v_iaload kd_242 g15 (by decide) dX12_isSureWith_124 ?_
        refine v_iload_n (f := 3) 3 rfl dX12_isSureWith_125 ?_
        refine v_icmp_ne (tgt := 139) dX12_isSureWith_126 (by decide) (fun c16 => ?_) (fun c16 => ?_)
        · replace h := b_wp_f c16 h
          refine v_sub (ls2 := [(0, bR _), (1, bI _), (2, bI _), (3, bI _), (5, bI _), (6, bI _)]) [0, 1, 2, 3, 5, 6] rfl ?_
          exact t_X12_isSureWith_b139 h
        · replace h := b_wp_t c16 h
          obtain ⟨g17, h⟩ := b_wp_g h
          refine v_aload_n (f := 0) 0 rfl dX12_isSureWith_129 ?_
          refine v_getR (kf := 121) (kz := 121) rfl kd_11 rfl ⟨by decide, by decide⟩ rfl wf_12_263 dX12_isSureWith_130 ?_
          refine v_iload (i := 6) 6 rfl dX12_isSureWith_133 ?_
          refine v_iaload kd_243 g17 (by decide) dX12_isSureWith_135 ?_
          refine v_goto (tgt := 140) dX12_isSureWith_136 (by decide) ?_
          refine v_sub (ls2 := [(0, bR _), (1, bI _), (2, bI _), (3, bI _), (5, bI _), (6, bI _)]) [0, 1, 2, 3, 5, 6] rfl ?_
          exact t_X12_isSureWith_b140 h
theorem l_X12_isSureWith_92 {l : Launch} {E : bE} {Q : Int → Prop} {v1 : Int} {v2 : Int} {v3 : Int} {v5 : Int} {M : bM} {s : Int × Int} (h : b_wp (b_loop (fun t => F_X12_isSureWith_s92 v1 v2 v3 t.1 v5 t.2 M) s) (X_X12_isSureWith_92 l E Q v1 v2 v3 v5 M)) : A_X12_isSureWith_92 l E Q v1 v2 v3 v5 M s := b_loop_wp (fun t h => t_X12_isSureWith_s92 h) s h
noncomputable def F_X12_isSureWith_b149 (v1 : Int) (v2 : Int) (v4 : Int) (M : bM) : Option ((Int) ⊕ ((Unit) ⊕ Int)) :=
  b_bind (F_X12_ruleOn (M 11 11) 1 M) (fun x18 => if x18 ≤ v4 then (b_g (b_i32 (v2 + 1)) (some (.inl ((v2 + 1))))) else (some (.inr (.inr 0))))
theorem t_X12_isSureWith_b149 {l : Launch} {E : bE} {Q : Int → Prop} {v1 : Int} {v2 : Int} {v4 : Int} {M : bM} (h : b_wp (F_X12_isSureWith_b149 v1 v2 v4 M) (Sum.elim (A_X12_isSureWith_20 l E Q v1 M) (X_X12_isSureWith_20 l E Q v1 M))) : V l E xX12_isSureWith (0, 0) 149 [(0, bR 11), (1, bI v1), (2, bI v2), (4, bI v4)] [] M (b_pIp M Q) := by
  unfold F_X12_isSureWith_b149 at h
  refine v_iload (i := 4) 3 rfl dX12_isSureWith_149 ?_
  refine v_aload_n (f := 0) 0 rfl dX12_isSureWith_151 ?_
  refine v_aload_n (f := 0) 0 rfl dX12_isSureWith_152 ?_
  refine v_getI (kf := 11) (kz := 11) rfl kd_11 rfl ⟨by decide, by decide⟩ rfl wf_12_344 dX12_isSureWith_153 ?_
  refine v_iconst ⟨by decide, by decide⟩ dX12_isSureWith_156 ?_
  refine v_cVIp (nA := 2) (As := [bI _, bI _]) (ix := 493) (cf_X12_ruleOn (b_wp_b h)) rfl kd_11 rfl rfl wc_X12_ruleOn wm_12_493 wi_X12_ruleOn ws_X12_ruleOn wn_12 ⟨by decide, by decide, by decide⟩ rfl ⟨by decide, by decide⟩ ⟨by decide, by decide⟩ (Nat.le_of_ble_eq_true rfl) dX12_isSureWith_157 (fun x18 h => ?_)
  refine v_icmp_ge (tgt := 165) dX12_isSureWith_160 (by decide) (fun c19 => ?_) (fun c19 => ?_)
  · replace h := b_wp_t c19 h
    obtain ⟨g20, h⟩ := b_wp_g h
    refine v_iincN (ls' := [(2, bI _), (0, bR _), (1, bI _), (4, bI _)]) 2 rfl (by decide) g20 dX12_isSureWith_165 rfl ?_
    refine v_goto (tgt := 20) dX12_isSureWith_168 (by decide) ?_
    refine v_sub (ls2 := [(0, bR _), (1, bI _), (2, bI _)]) [1, 2, 0] rfl ?_
    exact h
  · replace h := b_wp_f c19 h
    refine v_iconst ⟨by decide, by decide⟩ dX12_isSureWith_163 ?_
    refine v_zreturn rfl (Or.inl rfl) dX12_isSureWith_164 ⟨by decide, by decide⟩ ?_
    exact ⟨_, rfl, rfl, h⟩
noncomputable def F_X12_isSureWith_b87 (v1 : Int) (v2 : Int) (v3 : Int) (v4 : Int) (u0 : Int) (M : bM) : Option ((Int) ⊕ ((Unit) ⊕ Int)) :=
  b_bind (b_loop (fun t => F_X12_isSureWith_s92 v1 v2 v3 t.1 u0 t.2 M) (v4, 0)) (fun t => F_X12_isSureWith_b149 v1 v2 t M)
theorem t_X12_isSureWith_b87 {l : Launch} {E : bE} {Q : Int → Prop} {v1 : Int} {v2 : Int} {v3 : Int} {v4 : Int} {u0 : Int} {M : bM} (h : b_wp (F_X12_isSureWith_b87 v1 v2 v3 v4 u0 M) (Sum.elim (A_X12_isSureWith_20 l E Q v1 M) (X_X12_isSureWith_20 l E Q v1 M))) : V l E xX12_isSureWith (0, 0) 87 [(0, bR 11), (1, bI v1), (2, bI v2), (3, bI v3), (4, bI v4)] [bI u0] M (b_pIp M Q) := by
  unfold F_X12_isSureWith_b87 at h
  refine v_istore (i := 5) (ls' := [(5, bI _), (0, bR _), (1, bI _), (2, bI _), (3, bI _), (4, bI _)]) (by decide) dX12_isSureWith_87 rfl ?_
  refine v_iconst ⟨by decide, by decide⟩ dX12_isSureWith_89 ?_
  refine v_istore (i := 6) (ls' := [(6, bI _), (5, bI _), (0, bR _), (1, bI _), (2, bI _), (3, bI _), (4, bI _)]) (by decide) dX12_isSureWith_90 rfl ?_
  refine v_sub (ls2 := [(0, bR _), (1, bI _), (2, bI _), (3, bI _), (4, bI _), (5, bI _), (6, bI _)]) [2, 3, 4, 5, 6, 1, 0] rfl ?_
  refine l_X12_isSureWith_92 (b_wp_m (fun t h => ?_) (b_wp_b h))
  show V l E xX12_isSureWith (0, 0) 149 [(0, bR 11), (1, bI _), (2, bI _), (4, bI _)] [] _ (b_pIp M Q)
  exact t_X12_isSureWith_b149 h
noncomputable def F_X12_isSureWith_b86 (v1 : Int) (v2 : Int) (v3 : Int) (v4 : Int) (M : bM) : Option ((Int) ⊕ ((Unit) ⊕ Int)) :=
  F_X12_isSureWith_b87 v1 v2 v3 v4 0 M
theorem t_X12_isSureWith_b86 {l : Launch} {E : bE} {Q : Int → Prop} {v1 : Int} {v2 : Int} {v3 : Int} {v4 : Int} {M : bM} (h : b_wp (F_X12_isSureWith_b86 v1 v2 v3 v4 M) (Sum.elim (A_X12_isSureWith_20 l E Q v1 M) (X_X12_isSureWith_20 l E Q v1 M))) : V l E xX12_isSureWith (0, 0) 86 [(0, bR 11), (1, bI v1), (2, bI v2), (3, bI v3), (4, bI v4)] [] M (b_pIp M Q) := by
  unfold F_X12_isSureWith_b86 at h
  refine v_iconst ⟨by decide, by decide⟩ dX12_isSureWith_86 ?_
  exact t_X12_isSureWith_b87 h
noncomputable def F_X12_isSureWith_s20 (v1 : Int) (v2 : Int) (M : bM) : Option ((Int) ⊕ ((Unit) ⊕ Int)) :=
  if (M 11 86) ≤ v2 then (some (.inr (.inl ()))) else (b_g (0 ≤ v2 ∧ v2 < 8) (b_let ((M 219 v2)) (fun y5 => b_bind (F_X12_pointsOf y5 M) (fun x6 => b_g ((b_i32 (3 * y5)) ∧ (0 ≤ (3 * y5) ∧ (3 * y5) < 90)) (if (M 209 (3 * y5)) = (-1) then (F_X12_isSureWith_b86 v1 v2 y5 x6 M) else (b_g ((b_i32 (3 * y5)) ∧ (b_i32 ((3 * y5) + 1)) ∧ (0 ≤ ((3 * y5) + 1) ∧ ((3 * y5) + 1) < 90)) (if (M 209 ((3 * y5) + 1)) = (-1) then (F_X12_isSureWith_b86 v1 v2 y5 x6 M) else (b_g ((b_i32 (3 * y5)) ∧ (b_i32 ((3 * y5) + 2)) ∧ (0 ≤ ((3 * y5) + 2) ∧ ((3 * y5) + 2) < 90)) (if (M 209 ((3 * y5) + 2)) = (-1) then (F_X12_isSureWith_b86 v1 v2 y5 x6 M) else (F_X12_isSureWith_b87 v1 v2 y5 x6 1 M))))))))))
theorem t_X12_isSureWith_s20 {l : Launch} {E : bE} {Q : Int → Prop} {v1 : Int} {v2 : Int} {M : bM} (h : b_wp (F_X12_isSureWith_s20 v1 v2 M) (Sum.elim (A_X12_isSureWith_20 l E Q v1 M) (X_X12_isSureWith_20 l E Q v1 M))) : V l E xX12_isSureWith (0, 0) 20 [(0, bR 11), (1, bI v1), (2, bI v2)] [] M (b_pIp M Q) := by
  unfold F_X12_isSureWith_s20 at h
  refine v_iload_n (f := 2) 2 rfl dX12_isSureWith_20 ?_
  refine v_aload_n (f := 0) 0 rfl dX12_isSureWith_21 ?_
  refine v_getI (kf := 86) (kz := 86) rfl kd_11 rfl ⟨by decide, by decide⟩ rfl wf_12_571 dX12_isSureWith_22 ?_
  refine v_icmp_ge (tgt := 171) dX12_isSureWith_25 (by decide) (fun c3 => ?_) (fun c3 => ?_)
  · replace h := b_wp_t c3 h
    refine v_sub (ls2 := [(0, bR _)]) [0] rfl ?_
    exact h
  · replace h := b_wp_f c3 h
    obtain ⟨g4, h⟩ := b_wp_g h
    refine v_aload_n (f := 0) 0 rfl dX12_isSureWith_28 ?_
    refine v_getR (kf := 88) (kz := 88) rfl kd_11 rfl ⟨by decide, by decide⟩ rfl wf_12_191 dX12_isSureWith_29 ?_
    refine v_iload_n (f := 2) 2 rfl dX12_isSureWith_32 ?_
    refine v_iaload kd_219 g4 (by decide) dX12_isSureWith_33 ?_
    replace h := b_wp_l h
    refine v_istore_n (g := 3) (i := 3) (ls' := [(3, bI _), (0, bR _), (1, bI _), (2, bI _)]) rfl (by decide) dX12_isSureWith_34 rfl ?_
    refine v_aload_n (f := 0) 1 rfl dX12_isSureWith_35 ?_
    refine v_iload_n (f := 3) 0 rfl dX12_isSureWith_36 ?_
    refine v_cVIp (nA := 1) (As := [bI _]) (ix := 537) (cf_X12_pointsOf (b_wp_b h)) rfl kd_11 rfl rfl wc_X12_pointsOf wm_12_537 wi_X12_pointsOf ws_X12_pointsOf wn_12 ⟨by decide, by decide, by decide⟩ rfl ⟨by decide, by decide⟩ ⟨by decide, by decide⟩ (Nat.le_of_ble_eq_true rfl) dX12_isSureWith_37 (fun x6 h => ?_)
    obtain ⟨⟨g7, g8⟩, h⟩ := b_wp_g h
    refine v_istore (i := 4) (ls' := [(4, bI _), (3, bI _), (0, bR _), (1, bI _), (2, bI _)]) (by decide) dX12_isSureWith_40 rfl ?_
    refine v_aload_n (f := 0) 2 rfl dX12_isSureWith_42 ?_
    refine v_getR (kf := 70) (kz := 70) rfl kd_11 rfl ⟨by decide, by decide⟩ rfl wf_12_161 dX12_isSureWith_43 ?_
    refine v_iconst ⟨by decide, by decide⟩ dX12_isSureWith_46 ?_
    refine v_iload_n (f := 3) 1 rfl dX12_isSureWith_47 ?_
    refine v_imulN g7 dX12_isSureWith_48 ?_
    refine v_iaload kd_209 g8 (by decide) dX12_isSureWith_49 ?_
    refine v_iconst ⟨by decide, by decide⟩ dX12_isSureWith_50 ?_
    refine v_icmp_eq (tgt := 86) dX12_isSureWith_51 (by decide) (fun c9 => ?_) (fun c9 => ?_)
    · replace h := b_wp_t c9 h
      refine v_sub (ls2 := [(0, bR _), (1, bI _), (2, bI _), (3, bI _), (4, bI _)]) [2, 3, 4, 1, 0] rfl ?_
      exact t_X12_isSureWith_b86 h
    · replace h := b_wp_f c9 h
      obtain ⟨⟨g21, g22, g23⟩, h⟩ := b_wp_g h
      refine v_aload_n (f := 0) 2 rfl dX12_isSureWith_54 ?_
      refine v_getR (kf := 70) (kz := 70) rfl kd_11 rfl ⟨by decide, by decide⟩ rfl wf_12_161 dX12_isSureWith_55 ?_
      refine v_iconst ⟨by decide, by decide⟩ dX12_isSureWith_58 ?_
      refine v_iload_n (f := 3) 1 rfl dX12_isSureWith_59 ?_
      refine v_imulN g21 dX12_isSureWith_60 ?_
      refine v_iconst ⟨by decide, by decide⟩ dX12_isSureWith_61 ?_
      refine v_iaddN g22 dX12_isSureWith_62 ?_
      refine v_iaload kd_209 g23 (by decide) dX12_isSureWith_63 ?_
      refine v_iconst ⟨by decide, by decide⟩ dX12_isSureWith_64 ?_
      refine v_icmp_eq (tgt := 86) dX12_isSureWith_65 (by decide) (fun c24 => ?_) (fun c24 => ?_)
      · replace h := b_wp_t c24 h
        refine v_sub (ls2 := [(0, bR _), (1, bI _), (2, bI _), (3, bI _), (4, bI _)]) [2, 3, 4, 1, 0] rfl ?_
        exact t_X12_isSureWith_b86 h
      · replace h := b_wp_f c24 h
        obtain ⟨⟨g25, g26, g27⟩, h⟩ := b_wp_g h
        refine v_aload_n (f := 0) 2 rfl dX12_isSureWith_68 ?_
        refine v_getR (kf := 70) (kz := 70) rfl kd_11 rfl ⟨by decide, by decide⟩ rfl wf_12_161 dX12_isSureWith_69 ?_
        refine v_iconst ⟨by decide, by decide⟩ dX12_isSureWith_72 ?_
        refine v_iload_n (f := 3) 1 rfl dX12_isSureWith_73 ?_
        refine v_imulN g25 dX12_isSureWith_74 ?_
        refine v_iconst ⟨by decide, by decide⟩ dX12_isSureWith_75 ?_
        refine v_iaddN g26 dX12_isSureWith_76 ?_
        refine v_iaload kd_209 g27 (by decide) dX12_isSureWith_77 ?_
        refine v_iconst ⟨by decide, by decide⟩ dX12_isSureWith_78 ?_
        refine v_icmp_eq (tgt := 86) dX12_isSureWith_79 (by decide) (fun c28 => ?_) (fun c28 => ?_)
        · replace h := b_wp_t c28 h
          refine v_sub (ls2 := [(0, bR _), (1, bI _), (2, bI _), (3, bI _), (4, bI _)]) [2, 3, 4, 1, 0] rfl ?_
          exact t_X12_isSureWith_b86 h
        · replace h := b_wp_f c28 h
          refine v_iconst ⟨by decide, by decide⟩ dX12_isSureWith_82 ?_
          refine v_goto (tgt := 87) dX12_isSureWith_83 (by decide) ?_
          refine v_sub (ls2 := [(0, bR _), (1, bI _), (2, bI _), (3, bI _), (4, bI _)]) [2, 3, 4, 1, 0] rfl ?_
          exact t_X12_isSureWith_b87 h
theorem l_X12_isSureWith_20 {l : Launch} {E : bE} {Q : Int → Prop} {v1 : Int} {M : bM} {s : Int} (h : b_wp (b_loop (fun t => F_X12_isSureWith_s20 v1 t M) s) (X_X12_isSureWith_20 l E Q v1 M)) : A_X12_isSureWith_20 l E Q v1 M s := b_loop_wp (fun t h => t_X12_isSureWith_s20 h) s h
noncomputable def F_X12_isSureWith_b171 (M : bM) : Option (Int) :=
  if 0 < (M 11 86) then (some 1) else (b_bind (F_X12_ruleOn (M 11 11) 1 M) (fun x30 => if 999 < x30 then (some 0) else (some 1)))
theorem t_X12_isSureWith_b171 {l : Launch} {E : bE} {Q : Int → Prop} {M : bM} (h : b_wp (F_X12_isSureWith_b171 M) (Q)) : V l E xX12_isSureWith (0, 0) 171 [(0, bR 11)] [] M (b_pIp M Q) := by
  unfold F_X12_isSureWith_b171 at h
  refine v_aload_n (f := 0) 0 rfl dX12_isSureWith_171 ?_
  refine v_getI (kf := 86) (kz := 86) rfl kd_11 rfl ⟨by decide, by decide⟩ rfl wf_12_571 dX12_isSureWith_172 ?_
  refine v_if_gt (tgt := 193) dX12_isSureWith_175 (by decide) (fun c29 => ?_) (fun c29 => ?_)
  · replace h := b_wp_t c29 h
    refine v_iconst ⟨by decide, by decide⟩ dX12_isSureWith_193 ?_
    refine v_goto (tgt := 198) dX12_isSureWith_194 (by decide) ?_
    refine v_zreturn rfl (Or.inr rfl) dX12_isSureWith_198 ⟨by decide, by decide⟩ ?_
    exact ⟨_, rfl, rfl, h⟩
  · replace h := b_wp_f c29 h
    refine v_sipush ⟨by decide, by decide⟩ (by decide) dX12_isSureWith_178 ?_
    refine v_aload_n (f := 0) 0 rfl dX12_isSureWith_181 ?_
    refine v_aload_n (f := 0) 0 rfl dX12_isSureWith_182 ?_
    refine v_getI (kf := 11) (kz := 11) rfl kd_11 rfl ⟨by decide, by decide⟩ rfl wf_12_344 dX12_isSureWith_183 ?_
    refine v_iconst ⟨by decide, by decide⟩ dX12_isSureWith_186 ?_
    refine v_cVIp (nA := 2) (As := [bI _, bI _]) (ix := 493) (cf_X12_ruleOn (b_wp_b h)) rfl kd_11 rfl rfl wc_X12_ruleOn wm_12_493 wi_X12_ruleOn ws_X12_ruleOn wn_12 ⟨by decide, by decide, by decide⟩ rfl ⟨by decide, by decide⟩ ⟨by decide, by decide⟩ (Nat.le_of_ble_eq_true rfl) dX12_isSureWith_187 (fun x30 h => ?_)
    refine v_icmp_lt (tgt := 197) dX12_isSureWith_190 (by decide) (fun c31 => ?_) (fun c31 => ?_)
    · replace h := b_wp_t c31 h
      refine v_iconst ⟨by decide, by decide⟩ dX12_isSureWith_197 ?_
      refine v_zreturn rfl (Or.inl rfl) dX12_isSureWith_198 ⟨by decide, by decide⟩ ?_
      exact ⟨_, rfl, rfl, h⟩
    · replace h := b_wp_f c31 h
      refine v_iconst ⟨by decide, by decide⟩ dX12_isSureWith_193 ?_
      refine v_goto (tgt := 198) dX12_isSureWith_194 (by decide) ?_
      refine v_zreturn rfl (Or.inr rfl) dX12_isSureWith_198 ⟨by decide, by decide⟩ ?_
      exact ⟨_, rfl, rfl, h⟩
noncomputable def F_X12_isSureWith (v1 : Int) (M : bM) : Option (Int) :=
  b_bind (F_X12_ruleOn (M 11 11) 3 M) (fun x1 => if (M 11 84) ≤ x1 then (b_bind (b_loop (fun t => F_X12_isSureWith_s20 v1 t M) (0)) (Sum.elim (fun t => F_X12_isSureWith_b171 M) some)) else (some 0))
theorem t_X12_isSureWith {l : Launch} {E : bE} {Q : Int → Prop} {v1 : Int} {M : bM} (h : b_wp (F_X12_isSureWith v1 M) (Q)) : V l E xX12_isSureWith (0, 0) 0 [(0, bR 11), (1, bI v1)] [] M (b_pIp M Q) := by
  unfold F_X12_isSureWith at h
  refine v_aload_n (f := 0) 0 rfl dX12_isSureWith_0 ?_
  refine v_getI (kf := 84) (kz := 84) rfl kd_11 rfl ⟨by decide, by decide⟩ rfl wf_12_580 dX12_isSureWith_1 ?_
  refine v_aload_n (f := 0) 0 rfl dX12_isSureWith_4 ?_
  refine v_aload_n (f := 0) 0 rfl dX12_isSureWith_5 ?_
  refine v_getI (kf := 11) (kz := 11) rfl kd_11 rfl ⟨by decide, by decide⟩ rfl wf_12_344 dX12_isSureWith_6 ?_
  refine v_iconst ⟨by decide, by decide⟩ dX12_isSureWith_9 ?_
  refine v_cVIp (nA := 2) (As := [bI _, bI _]) (ix := 493) (cf_X12_ruleOn (b_wp_b h)) rfl kd_11 rfl rfl wc_X12_ruleOn wm_12_493 wi_X12_ruleOn ws_X12_ruleOn wn_12 ⟨by decide, by decide, by decide⟩ rfl ⟨by decide, by decide⟩ ⟨by decide, by decide⟩ (Nat.le_of_ble_eq_true rfl) dX12_isSureWith_10 (fun x1 h => ?_)
  refine v_icmp_le (tgt := 18) dX12_isSureWith_13 (by decide) (fun c2 => ?_) (fun c2 => ?_)
  · replace h := b_wp_t c2 h
    refine v_iconst ⟨by decide, by decide⟩ dX12_isSureWith_18 ?_
    refine v_istore_n (g := 2) (i := 2) (ls' := [(2, bI _), (0, bR _), (1, bI _)]) rfl (by decide) dX12_isSureWith_19 rfl ?_
    refine v_sub (ls2 := [(0, bR _), (1, bI _), (2, bI _)]) [1, 2, 0] rfl ?_
    refine l_X12_isSureWith_20 (b_wp_m (fun t h => ?_) (b_wp_b h))
    cases t with
    | inr o => exact h
    | inl t =>
      show V l E xX12_isSureWith (0, 0) 171 [(0, bR 11)] [] _ (b_pIp M Q)
      replace h := b_wp_inl h
      exact t_X12_isSureWith_b171 h
  · replace h := b_wp_f c2 h
    refine v_iconst ⟨by decide, by decide⟩ dX12_isSureWith_16 ?_
    refine v_zreturn rfl (Or.inl rfl) dX12_isSureWith_17 ⟨by decide, by decide⟩ ?_
    exact ⟨_, rfl, rfl, h⟩
theorem cf_X12_isSureWith {l : Launch} {E : bE} {M : bM} {v1 : Int} {Q : Int → Prop} (h : b_wp (F_X12_isSureWith v1 M) Q) : b_C l E xX12_isSureWith yX12_isSureWith [bR 11, bI v1] M (b_pIp M Q) := b_met (by decide) ⟨rfl, rfl⟩ (Nat.le_of_ble_eq_true rfl) (fun _ _ => t_X12_isSureWith h)
abbrev xX12_makeSettled : bX := ("BurntHallModel", prog_14_method_126_code, 5, (Option.none : Option Jvm.ClassFile.FieldType), b_rm 6 0 0, 0, "makeSettled")
abbrev yX12_makeSettled : MethodName := ⟨"BurntHallModel", "makeSettled", "(II)V"⟩
theorem dX12_makeSettled_0 : decode prog_14_method_126_code 0 = .ok (.iload_n 1, 1) := by decide +kernel
theorem dX12_makeSettled_1 : decode prog_14_method_126_code 1 = .ok (.istore_n 3, 1) := by decide +kernel
theorem dX12_makeSettled_2 : decode prog_14_method_126_code 2 = .ok (.iload_n 3, 1) := by decide +kernel
theorem dX12_makeSettled_3 : decode prog_14_method_126_code 3 = .ok (.iload_n 2, 1) := by decide +kernel
theorem dX12_makeSettled_4 : decode prog_14_method_126_code 4 = .ok (.if_icmp .gt 16, 3) := by decide +kernel
theorem dX12_makeSettled_7 : decode prog_14_method_126_code 7 = .ok (.aload_n 0, 1) := by decide +kernel
theorem dX12_makeSettled_8 : decode prog_14_method_126_code 8 = .ok (.getfield 272, 3) := by decide +kernel
theorem dX12_makeSettled_11 : decode prog_14_method_126_code 11 = .ok (.iload_n 3, 1) := by decide +kernel
theorem dX12_makeSettled_12 : decode prog_14_method_126_code 12 = .ok (.iconst 0, 1) := by decide +kernel
theorem dX12_makeSettled_13 : decode prog_14_method_126_code 13 = .ok (.iastore, 1) := by decide +kernel
theorem dX12_makeSettled_14 : decode prog_14_method_126_code 14 = .ok (.iinc 3 1, 3) := by decide +kernel
theorem dX12_makeSettled_17 : decode prog_14_method_126_code 17 = .ok (.goto (-15), 3) := by decide +kernel
theorem dX12_makeSettled_20 : decode prog_14_method_126_code 20 = .ok (.iconst 0, 1) := by decide +kernel
theorem dX12_makeSettled_21 : decode prog_14_method_126_code 21 = .ok (.istore_n 3, 1) := by decide +kernel
theorem dX12_makeSettled_22 : decode prog_14_method_126_code 22 = .ok (.iload_n 3, 1) := by decide +kernel
theorem dX12_makeSettled_23 : decode prog_14_method_126_code 23 = .ok (.aload_n 0, 1) := by decide +kernel
theorem dX12_makeSettled_24 : decode prog_14_method_126_code 24 = .ok (.getfield 374, 3) := by decide +kernel
theorem dX12_makeSettled_27 : decode prog_14_method_126_code 27 = .ok (.if_icmp .ge 82, 3) := by decide +kernel
theorem dX12_makeSettled_30 : decode prog_14_method_126_code 30 = .ok (.aload_n 0, 1) := by decide +kernel
theorem dX12_makeSettled_31 : decode prog_14_method_126_code 31 = .ok (.iload_n 3, 1) := by decide +kernel
theorem dX12_makeSettled_32 : decode prog_14_method_126_code 32 = .ok (.invokevirtual 641, 3) := by decide +kernel
theorem dX12_makeSettled_35 : decode prog_14_method_126_code 35 = .ok (.ifCond .eq 68, 3) := by decide +kernel
theorem dX12_makeSettled_38 : decode prog_14_method_126_code 38 = .ok (.aload_n 0, 1) := by decide +kernel
theorem dX12_makeSettled_39 : decode prog_14_method_126_code 39 = .ok (.iload_n 3, 1) := by decide +kernel
theorem dX12_makeSettled_40 : decode prog_14_method_126_code 40 = .ok (.aload_n 0, 1) := by decide +kernel
theorem dX12_makeSettled_41 : decode prog_14_method_126_code 41 = .ok (.getfield 227, 3) := by decide +kernel
theorem dX12_makeSettled_44 : decode prog_14_method_126_code 44 = .ok (.aload_n 0, 1) := by decide +kernel
theorem dX12_makeSettled_45 : decode prog_14_method_126_code 45 = .ok (.getfield 242, 3) := by decide +kernel
theorem dX12_makeSettled_48 : decode prog_14_method_126_code 48 = .ok (.iload_n 3, 1) := by decide +kernel
theorem dX12_makeSettled_49 : decode prog_14_method_126_code 49 = .ok (.iaload, 1) := by decide +kernel
theorem dX12_makeSettled_50 : decode prog_14_method_126_code 50 = .ok (.iaload, 1) := by decide +kernel
theorem dX12_makeSettled_51 : decode prog_14_method_126_code 51 = .ok (.aload_n 0, 1) := by decide +kernel
theorem dX12_makeSettled_52 : decode prog_14_method_126_code 52 = .ok (.getfield 344, 3) := by decide +kernel
theorem dX12_makeSettled_55 : decode prog_14_method_126_code 55 = .ok (.invokevirtual 601, 3) := by decide +kernel
theorem dX12_makeSettled_58 : decode prog_14_method_126_code 58 = .ok (.ifCond .ne 6, 3) := by decide +kernel
theorem dX12_makeSettled_61 : decode prog_14_method_126_code 61 = .ok (.goto 42, 3) := by decide +kernel
theorem dX12_makeSettled_64 : decode prog_14_method_126_code 64 = .ok (.iload_n 1, 1) := by decide +kernel
theorem dX12_makeSettled_65 : decode prog_14_method_126_code 65 = .ok (.istore 4, 2) := by decide +kernel
theorem dX12_makeSettled_67 : decode prog_14_method_126_code 67 = .ok (.iload 4, 2) := by decide +kernel
theorem dX12_makeSettled_69 : decode prog_14_method_126_code 69 = .ok (.iload_n 2, 1) := by decide +kernel
theorem dX12_makeSettled_70 : decode prog_14_method_126_code 70 = .ok (.if_icmp .gt 33, 3) := by decide +kernel
theorem dX12_makeSettled_73 : decode prog_14_method_126_code 73 = .ok (.aload_n 0, 1) := by decide +kernel
theorem dX12_makeSettled_74 : decode prog_14_method_126_code 74 = .ok (.getfield 272, 3) := by decide +kernel
theorem dX12_makeSettled_77 : decode prog_14_method_126_code 77 = .ok (.iload 4, 2) := by decide +kernel
theorem dX12_makeSettled_79 : decode prog_14_method_126_code 79 = .ok (.dup2, 1) := by decide +kernel
theorem dX12_makeSettled_80 : decode prog_14_method_126_code 80 = .ok (.iaload, 1) := by decide +kernel
theorem dX12_makeSettled_81 : decode prog_14_method_126_code 81 = .ok (.aload_n 0, 1) := by decide +kernel
theorem dX12_makeSettled_82 : decode prog_14_method_126_code 82 = .ok (.iload 4, 2) := by decide +kernel
theorem dX12_makeSettled_84 : decode prog_14_method_126_code 84 = .ok (.invokevirtual 654, 3) := by decide +kernel
theorem dX12_makeSettled_87 : decode prog_14_method_126_code 87 = .ok (.ifCond .eq 7, 3) := by decide +kernel
theorem dX12_makeSettled_90 : decode prog_14_method_126_code 90 = .ok (.iconst 1, 1) := by decide +kernel
theorem dX12_makeSettled_91 : decode prog_14_method_126_code 91 = .ok (.goto 4, 3) := by decide +kernel
theorem dX12_makeSettled_94 : decode prog_14_method_126_code 94 = .ok (.iconst 0, 1) := by decide +kernel
theorem dX12_makeSettled_95 : decode prog_14_method_126_code 95 = .ok (.iadd, 1) := by decide +kernel
theorem dX12_makeSettled_96 : decode prog_14_method_126_code 96 = .ok (.iastore, 1) := by decide +kernel
theorem dX12_makeSettled_97 : decode prog_14_method_126_code 97 = .ok (.iinc 4 1, 3) := by decide +kernel
theorem dX12_makeSettled_100 : decode prog_14_method_126_code 100 = .ok (.goto (-33), 3) := by decide +kernel
theorem dX12_makeSettled_103 : decode prog_14_method_126_code 103 = .ok (.iinc 3 1, 3) := by decide +kernel
theorem dX12_makeSettled_106 : decode prog_14_method_126_code 106 = .ok (.goto (-84), 3) := by decide +kernel
theorem dX12_makeSettled_109 : decode prog_14_method_126_code 109 = .ok (.return_, 1) := by decide +kernel
abbrev A_X12_makeSettled_2 (l : Launch) (E : bE) (Q : bM → Prop) (v1 : Int) (v2 : Int) : (Int × bM) → Prop := (fun t : Int × bM => V l E xX12_makeSettled (0, 0) 2 [(0, bR 11), (1, bI v1), (2, bI v2), (3, bI (t.1))] [] t.2 (b_pV Q))
abbrev X_X12_makeSettled_2 (l : Launch) (E : bE) (Q : bM → Prop) (v1 : Int) (v2 : Int) : (bM) → Prop := (fun t : bM => V l E xX12_makeSettled (0, 0) 20 [(0, bR 11), (1, bI v1), (2, bI v2)] [] t (b_pV Q))
noncomputable def F_X12_makeSettled_s2 (v1 : Int) (v2 : Int) (v3 : Int) (M : bM) : Option ((Int × bM) ⊕ (bM)) :=
  if v2 < v3 then (some (.inr (M))) else (b_g (0 ≤ v3 ∧ v3 < 4096) (b_let (b_up M 244 v3 0) (fun M3 => b_g (b_i32 (v3 + 1)) (some (.inl ((v3 + 1), M3))))))
theorem t_X12_makeSettled_s2 {l : Launch} {E : bE} {Q : bM → Prop} {v1 : Int} {v2 : Int} {v3 : Int} {M : bM} (h : b_wp (F_X12_makeSettled_s2 v1 v2 v3 M) (Sum.elim (A_X12_makeSettled_2 l E Q v1 v2) (X_X12_makeSettled_2 l E Q v1 v2))) : V l E xX12_makeSettled (0, 0) 2 [(0, bR 11), (1, bI v1), (2, bI v2), (3, bI v3)] [] M (b_pV Q) := by
  unfold F_X12_makeSettled_s2 at h
  refine v_iload_n (f := 3) 3 rfl dX12_makeSettled_2 ?_
  refine v_iload_n (f := 2) 2 rfl dX12_makeSettled_3 ?_
  refine v_icmp_gt (tgt := 20) dX12_makeSettled_4 (by decide) (fun c1 => ?_) (fun c1 => ?_)
  · replace h := b_wp_t c1 h
    refine v_sub (ls2 := [(0, bR _), (1, bI _), (2, bI _)]) [0, 1, 2] rfl ?_
    exact h
  · replace h := b_wp_f c1 h
    obtain ⟨g2, h⟩ := b_wp_g h
    refine v_aload_n (f := 0) 0 rfl dX12_makeSettled_7 ?_
    refine v_getR (kf := 124) (kz := 124) rfl kd_11 rfl ⟨by decide, by decide⟩ rfl wf_12_272 dX12_makeSettled_8 ?_
    refine v_iload_n (f := 3) 3 rfl dX12_makeSettled_11 ?_
    refine v_iconst ⟨by decide, by decide⟩ dX12_makeSettled_12 ?_
    refine v_iastore kd_244 g2 (by decide) dX12_makeSettled_13 ?_
    replace h := b_wp_l h
    obtain ⟨g4, h⟩ := b_wp_g h
    refine v_iincN (ls' := [(3, bI _), (0, bR _), (1, bI _), (2, bI _)]) 3 rfl (by decide) g4 dX12_makeSettled_14 rfl ?_
    refine v_goto (tgt := 2) dX12_makeSettled_17 (by decide) ?_
    refine v_sub (ls2 := [(0, bR _), (1, bI _), (2, bI _), (3, bI _)]) [1, 2, 3, 0] rfl ?_
    exact h
theorem l_X12_makeSettled_2 {l : Launch} {E : bE} {Q : bM → Prop} {v1 : Int} {v2 : Int} {s : Int × bM} (h : b_wp (b_loop (fun t => F_X12_makeSettled_s2 v1 v2 t.1 t.2) s) (X_X12_makeSettled_2 l E Q v1 v2)) : A_X12_makeSettled_2 l E Q v1 v2 s := b_loop_wp (fun t h => t_X12_makeSettled_s2 h) s h
abbrev A_X12_makeSettled_22 (l : Launch) (E : bE) (Q : bM → Prop) (v1 : Int) (v2 : Int) : (Int × bM) → Prop := (fun t : Int × bM => V l E xX12_makeSettled (0, 0) 22 [(0, bR 11), (1, bI v1), (2, bI v2), (3, bI (t.1))] [] t.2 (b_pV Q))
abbrev X_X12_makeSettled_22 (l : Launch) (E : bE) (Q : bM → Prop) (v1 : Int) (v2 : Int) : (bM) → Prop := (fun t : bM => V l E xX12_makeSettled (0, 0) 109 [] [] t (b_pV Q))
abbrev A_X12_makeSettled_67 (l : Launch) (E : bE) (Q : bM → Prop) (v1 : Int) (v2 : Int) (v3 : Int) : (Int × bM) → Prop := (fun t : Int × bM => V l E xX12_makeSettled (0, 0) 67 [(0, bR 11), (1, bI v1), (2, bI v2), (3, bI v3), (4, bI (t.1))] [] t.2 (b_pV Q))
abbrev X_X12_makeSettled_67 (l : Launch) (E : bE) (Q : bM → Prop) (v1 : Int) (v2 : Int) (v3 : Int) : (bM) → Prop := (fun t : bM => V l E xX12_makeSettled (0, 0) 103 [(0, bR 11), (1, bI v1), (2, bI v2), (3, bI v3)] [] t (b_pV Q))
noncomputable def F_X12_makeSettled_b95 (v1 : Int) (v2 : Int) (v3 : Int) (v4 : Int) (u1 : Int) (u2 : Int) (u3 : Int) (M : bM) : Option ((Int × bM) ⊕ (bM)) :=
  b_g ((b_i32 (u2 + u3)) ∧ (0 ≤ u1 ∧ u1 < 4096)) (b_let (b_up M 244 u1 (u2 + u3)) (fun M20 => b_g (b_i32 (v4 + 1)) (some (.inl ((v4 + 1), M20)))))
theorem t_X12_makeSettled_b95 {l : Launch} {E : bE} {Q : bM → Prop} {v1 : Int} {v2 : Int} {v3 : Int} {v4 : Int} {u1 : Int} {u2 : Int} {u3 : Int} {M : bM} (h : b_wp (F_X12_makeSettled_b95 v1 v2 v3 v4 u1 u2 u3 M) (Sum.elim (A_X12_makeSettled_67 l E Q v1 v2 v3) (X_X12_makeSettled_67 l E Q v1 v2 v3))) : V l E xX12_makeSettled (0, 0) 95 [(0, bR 11), (1, bI v1), (2, bI v2), (3, bI v3), (4, bI v4)] [bI u3, bI u2, bI u1, bR 244] M (b_pV Q) := by
  unfold F_X12_makeSettled_b95 at h
  obtain ⟨⟨g18, g19⟩, h⟩ := b_wp_g h
  refine v_iaddN g18 dX12_makeSettled_95 ?_
  refine v_iastore kd_244 g19 (by decide) dX12_makeSettled_96 ?_
  replace h := b_wp_l h
  obtain ⟨g21, h⟩ := b_wp_g h
  refine v_iincN (ls' := [(4, bI _), (0, bR _), (1, bI _), (2, bI _), (3, bI _)]) 4 rfl (by decide) g21 dX12_makeSettled_97 rfl ?_
  refine v_goto (tgt := 67) dX12_makeSettled_100 (by decide) ?_
  refine v_sub (ls2 := [(0, bR _), (1, bI _), (2, bI _), (3, bI _), (4, bI _)]) [1, 2, 3, 4, 0] rfl ?_
  exact h
noncomputable def F_X12_makeSettled_s67 (v1 : Int) (v2 : Int) (v3 : Int) (v4 : Int) (M : bM) : Option ((Int × bM) ⊕ (bM)) :=
  if v2 < v4 then (some (.inr (M))) else (b_g (0 ≤ v4 ∧ v4 < 4096) (b_bind (F_X12_isSureWith v4 M) (fun x16 => if x16 = 0 then (F_X12_makeSettled_b95 v1 v2 v3 v4 v4 (M 244 v4) 0 M) else (F_X12_makeSettled_b95 v1 v2 v3 v4 v4 (M 244 v4) 1 M))))
theorem t_X12_makeSettled_s67 {l : Launch} {E : bE} {Q : bM → Prop} {v1 : Int} {v2 : Int} {v3 : Int} {v4 : Int} {M : bM} (h : b_wp (F_X12_makeSettled_s67 v1 v2 v3 v4 M) (Sum.elim (A_X12_makeSettled_67 l E Q v1 v2 v3) (X_X12_makeSettled_67 l E Q v1 v2 v3))) : V l E xX12_makeSettled (0, 0) 67 [(0, bR 11), (1, bI v1), (2, bI v2), (3, bI v3), (4, bI v4)] [] M (b_pV Q) := by
  unfold F_X12_makeSettled_s67 at h
  refine v_iload (i := 4) 4 rfl dX12_makeSettled_67 ?_
  refine v_iload_n (f := 2) 2 rfl dX12_makeSettled_69 ?_
  refine v_icmp_gt (tgt := 103) dX12_makeSettled_70 (by decide) (fun c14 => ?_) (fun c14 => ?_)
  · replace h := b_wp_t c14 h
    refine v_sub (ls2 := [(0, bR _), (1, bI _), (2, bI _), (3, bI _)]) [0, 1, 2, 3] rfl ?_
    exact h
  · replace h := b_wp_f c14 h
    obtain ⟨g15, h⟩ := b_wp_g h
    refine v_aload_n (f := 0) 0 rfl dX12_makeSettled_73 ?_
    refine v_getR (kf := 124) (kz := 124) rfl kd_11 rfl ⟨by decide, by decide⟩ rfl wf_12_272 dX12_makeSettled_74 ?_
    refine v_iload (i := 4) 4 rfl dX12_makeSettled_77 ?_
    refine v_dup2 rfl rfl dX12_makeSettled_79 ?_
    refine v_iaload kd_244 g15 (by decide) dX12_makeSettled_80 ?_
    refine v_aload_n (f := 0) 0 rfl dX12_makeSettled_81 ?_
    refine v_iload (i := 4) 4 rfl dX12_makeSettled_82 ?_
    refine v_cVIp (nA := 1) (As := [bI _]) (ix := 654) (cf_X12_isSureWith (b_wp_b h)) rfl kd_11 rfl rfl wc_X12_isSureWith wm_12_654 wi_X12_isSureWith ws_X12_isSureWith wn_12 ⟨by decide, by decide, by decide⟩ rfl ⟨by decide, by decide⟩ ⟨by decide, by decide⟩ (Nat.le_of_ble_eq_true rfl) dX12_makeSettled_84 (fun x16 h => ?_)
    refine v_if_eq (tgt := 94) dX12_makeSettled_87 (by decide) (fun c17 => ?_) (fun c17 => ?_)
    · replace h := b_wp_t c17 h
      refine v_iconst ⟨by decide, by decide⟩ dX12_makeSettled_94 ?_
      exact t_X12_makeSettled_b95 h
    · replace h := b_wp_f c17 h
      refine v_iconst ⟨by decide, by decide⟩ dX12_makeSettled_90 ?_
      refine v_goto (tgt := 95) dX12_makeSettled_91 (by decide) ?_
      exact t_X12_makeSettled_b95 h
theorem l_X12_makeSettled_67 {l : Launch} {E : bE} {Q : bM → Prop} {v1 : Int} {v2 : Int} {v3 : Int} {s : Int × bM} (h : b_wp (b_loop (fun t => F_X12_makeSettled_s67 v1 v2 v3 t.1 t.2) s) (X_X12_makeSettled_67 l E Q v1 v2 v3)) : A_X12_makeSettled_67 l E Q v1 v2 v3 s := b_loop_wp (fun t h => t_X12_makeSettled_s67 h) s h
noncomputable def F_X12_makeSettled_b103 (v1 : Int) (v2 : Int) (v3 : Int) (M : bM) : Option ((Int × bM) ⊕ (bM)) :=
  b_g (b_i32 (v3 + 1)) (some (.inl ((v3 + 1), M)))
theorem t_X12_makeSettled_b103 {l : Launch} {E : bE} {Q : bM → Prop} {v1 : Int} {v2 : Int} {v3 : Int} {M : bM} (h : b_wp (F_X12_makeSettled_b103 v1 v2 v3 M) (Sum.elim (A_X12_makeSettled_22 l E Q v1 v2) (X_X12_makeSettled_22 l E Q v1 v2))) : V l E xX12_makeSettled (0, 0) 103 [(0, bR 11), (1, bI v1), (2, bI v2), (3, bI v3)] [] M (b_pV Q) := by
  unfold F_X12_makeSettled_b103 at h
  obtain ⟨g22, h⟩ := b_wp_g h
  refine v_iincN (ls' := [(3, bI _), (0, bR _), (1, bI _), (2, bI _)]) 3 rfl (by decide) g22 dX12_makeSettled_103 rfl ?_
  refine v_goto (tgt := 22) dX12_makeSettled_106 (by decide) ?_
  refine v_sub (ls2 := [(0, bR _), (1, bI _), (2, bI _), (3, bI _)]) [1, 2, 3, 0] rfl ?_
  exact h
noncomputable def F_X12_makeSettled_s22 (v1 : Int) (v2 : Int) (v3 : Int) (M : bM) : Option ((Int × bM) ⊕ (bM)) :=
  if (M 11 20) ≤ v3 then (some (.inr (M))) else (b_bind (F_X12_isDoubt v3 M) (fun x6 => if x6 = 0 then (b_g (b_i32 (v3 + 1)) (some (.inl ((v3 + 1), M)))) else (b_g ((0 ≤ v3 ∧ v3 < 60) ∧ (0 ≤ (M 236 v3) ∧ (M 236 v3) < 30)) (b_bind (F_X12_makeChain v3 (M 231 (M 236 v3)) (M 11 11) M) (fun t => b_two t (fun x11 M12 => if x11 = 0 then (b_g (b_i32 (v3 + 1)) (some (.inl ((v3 + 1), M12)))) else (b_bind (b_loop (fun t => F_X12_makeSettled_s67 v1 v2 v3 t.1 t.2) (v1, M12)) (fun t => F_X12_makeSettled_b103 v1 v2 v3 t))))))))
theorem t_X12_makeSettled_s22 {l : Launch} {E : bE} {Q : bM → Prop} {v1 : Int} {v2 : Int} {v3 : Int} {M : bM} (h : b_wp (F_X12_makeSettled_s22 v1 v2 v3 M) (Sum.elim (A_X12_makeSettled_22 l E Q v1 v2) (X_X12_makeSettled_22 l E Q v1 v2))) : V l E xX12_makeSettled (0, 0) 22 [(0, bR 11), (1, bI v1), (2, bI v2), (3, bI v3)] [] M (b_pV Q) := by
  unfold F_X12_makeSettled_s22 at h
  refine v_iload_n (f := 3) 3 rfl dX12_makeSettled_22 ?_
  refine v_aload_n (f := 0) 0 rfl dX12_makeSettled_23 ?_
  refine v_getI (kf := 20) (kz := 20) rfl kd_11 rfl ⟨by decide, by decide⟩ rfl wf_12_374 dX12_makeSettled_24 ?_
  refine v_icmp_ge (tgt := 109) dX12_makeSettled_27 (by decide) (fun c5 => ?_) (fun c5 => ?_)
  · replace h := b_wp_t c5 h
    refine v_sub (ls2 := []) [] rfl ?_
    exact h
  · replace h := b_wp_f c5 h
    refine v_aload_n (f := 0) 0 rfl dX12_makeSettled_30 ?_
    refine v_iload_n (f := 3) 3 rfl dX12_makeSettled_31 ?_
    refine v_cVIp (nA := 1) (As := [bI _]) (ix := 641) (cf_X12_isDoubt (b_wp_b h)) rfl kd_11 rfl rfl wc_X12_isDoubt wm_12_641 wi_X12_isDoubt ws_X12_isDoubt wn_12 ⟨by decide, by decide, by decide⟩ rfl ⟨by decide, by decide⟩ ⟨by decide, by decide⟩ (Nat.le_of_ble_eq_true rfl) dX12_makeSettled_32 (fun x6 h => ?_)
    refine v_if_eq (tgt := 103) dX12_makeSettled_35 (by decide) (fun c7 => ?_) (fun c7 => ?_)
    · replace h := b_wp_t c7 h
      obtain ⟨g8, h⟩ := b_wp_g h
      refine v_iincN (ls' := [(3, bI _), (0, bR _), (1, bI _), (2, bI _)]) 3 rfl (by decide) g8 dX12_makeSettled_103 rfl ?_
      refine v_goto (tgt := 22) dX12_makeSettled_106 (by decide) ?_
      refine v_sub (ls2 := [(0, bR _), (1, bI _), (2, bI _), (3, bI _)]) [1, 2, 3, 0] rfl ?_
      exact h
    · replace h := b_wp_f c7 h
      obtain ⟨⟨g9, g10⟩, h⟩ := b_wp_g h
      refine v_aload_n (f := 0) 0 rfl dX12_makeSettled_38 ?_
      refine v_iload_n (f := 3) 3 rfl dX12_makeSettled_39 ?_
      refine v_aload_n (f := 0) 0 rfl dX12_makeSettled_40 ?_
      refine v_getR (kf := 108) (kz := 108) rfl kd_11 rfl ⟨by decide, by decide⟩ rfl wf_12_227 dX12_makeSettled_41 ?_
      refine v_aload_n (f := 0) 0 rfl dX12_makeSettled_44 ?_
      refine v_getR (kf := 113) (kz := 113) rfl kd_11 rfl ⟨by decide, by decide⟩ rfl wf_12_242 dX12_makeSettled_45 ?_
      refine v_iload_n (f := 3) 3 rfl dX12_makeSettled_48 ?_
      refine v_iaload kd_236 g9 (by decide) dX12_makeSettled_49 ?_
      refine v_iaload kd_231 g10 (by decide) dX12_makeSettled_50 ?_
      refine v_aload_n (f := 0) 0 rfl dX12_makeSettled_51 ?_
      refine v_getI (kf := 11) (kz := 11) rfl kd_11 rfl ⟨by decide, by decide⟩ rfl wf_12_344 dX12_makeSettled_52 ?_
      refine v_cVI (nA := 3) (As := [bI _, bI _, bI _]) (ix := 601) (cf_X12_makeChain (b_wp_b h)) rfl kd_11 rfl rfl wc_X12_makeChain wm_12_601 wi_X12_makeChain ws_X12_makeChain wn_12 ⟨by decide, by decide, by decide⟩ rfl ⟨by decide, by decide⟩ ⟨by decide, by decide⟩ (Nat.le_of_ble_eq_true rfl) dX12_makeSettled_55 (fun x11 M12 h => ?_)
      replace h := b_wp_two h
      refine v_if_ne (tgt := 64) dX12_makeSettled_58 (by decide) (fun c13 => ?_) (fun c13 => ?_)
      · replace h := b_wp_f c13 h
        refine v_iload_n (f := 1) 1 rfl dX12_makeSettled_64 ?_
        refine v_istore (i := 4) (ls' := [(4, bI _), (0, bR _), (1, bI _), (2, bI _), (3, bI _)]) (by decide) dX12_makeSettled_65 rfl ?_
        refine v_sub (ls2 := [(0, bR _), (1, bI _), (2, bI _), (3, bI _), (4, bI _)]) [1, 2, 3, 4, 0] rfl ?_
        refine l_X12_makeSettled_67 (b_wp_m (fun t h => ?_) (b_wp_b h))
        show V l E xX12_makeSettled (0, 0) 103 [(0, bR 11), (1, bI _), (2, bI _), (3, bI _)] [] _ (b_pV Q)
        exact t_X12_makeSettled_b103 h
      · replace h := b_wp_t c13 h
        obtain ⟨g23, h⟩ := b_wp_g h
        refine v_goto (tgt := 103) dX12_makeSettled_61 (by decide) ?_
        refine v_iincN (ls' := [(3, bI _), (0, bR _), (1, bI _), (2, bI _)]) 3 rfl (by decide) g23 dX12_makeSettled_103 rfl ?_
        refine v_goto (tgt := 22) dX12_makeSettled_106 (by decide) ?_
        refine v_sub (ls2 := [(0, bR _), (1, bI _), (2, bI _), (3, bI _)]) [1, 2, 3, 0] rfl ?_
        exact h
theorem l_X12_makeSettled_22 {l : Launch} {E : bE} {Q : bM → Prop} {v1 : Int} {v2 : Int} {s : Int × bM} (h : b_wp (b_loop (fun t => F_X12_makeSettled_s22 v1 v2 t.1 t.2) s) (X_X12_makeSettled_22 l E Q v1 v2)) : A_X12_makeSettled_22 l E Q v1 v2 s := b_loop_wp (fun t h => t_X12_makeSettled_s22 h) s h
noncomputable def F_X12_makeSettled_b109 (M : bM) : Option (bM) :=
  some M
theorem t_X12_makeSettled_b109 {l : Launch} {E : bE} {Q : bM → Prop} {M : bM} (h : b_wp (F_X12_makeSettled_b109 M) (Q)) : V l E xX12_makeSettled (0, 0) 109 [] [] M (b_pV Q) := by
  unfold F_X12_makeSettled_b109 at h
  refine v_return rfl dX12_makeSettled_109 ⟨by decide, by decide⟩ ?_
  exact ⟨rfl, h⟩
noncomputable def F_X12_makeSettled_b20 (v1 : Int) (v2 : Int) (M : bM) : Option (bM) :=
  b_bind (b_loop (fun t => F_X12_makeSettled_s22 v1 v2 t.1 t.2) (0, M)) (fun t => F_X12_makeSettled_b109 t)
theorem t_X12_makeSettled_b20 {l : Launch} {E : bE} {Q : bM → Prop} {v1 : Int} {v2 : Int} {M : bM} (h : b_wp (F_X12_makeSettled_b20 v1 v2 M) (Q)) : V l E xX12_makeSettled (0, 0) 20 [(0, bR 11), (1, bI v1), (2, bI v2)] [] M (b_pV Q) := by
  unfold F_X12_makeSettled_b20 at h
  refine v_iconst ⟨by decide, by decide⟩ dX12_makeSettled_20 ?_
  refine v_istore_n (g := 3) (i := 3) (ls' := [(3, bI _), (0, bR _), (1, bI _), (2, bI _)]) rfl (by decide) dX12_makeSettled_21 rfl ?_
  refine v_sub (ls2 := [(0, bR _), (1, bI _), (2, bI _), (3, bI _)]) [1, 2, 3, 0] rfl ?_
  refine l_X12_makeSettled_22 (b_wp_m (fun t h => ?_) (b_wp_b h))
  show V l E xX12_makeSettled (0, 0) 109 [] [] _ (b_pV Q)
  exact t_X12_makeSettled_b109 h
noncomputable def F_X12_makeSettled (v1 : Int) (v2 : Int) (M : bM) : Option (bM) :=
  b_bind (b_loop (fun t => F_X12_makeSettled_s2 v1 v2 t.1 t.2) (v1, M)) (fun t => F_X12_makeSettled_b20 v1 v2 t)
theorem t_X12_makeSettled {l : Launch} {E : bE} {Q : bM → Prop} {v1 : Int} {v2 : Int} {M : bM} (h : b_wp (F_X12_makeSettled v1 v2 M) (Q)) : V l E xX12_makeSettled (0, 0) 0 [(0, bR 11), (1, bI v1), (2, bI v2)] [] M (b_pV Q) := by
  unfold F_X12_makeSettled at h
  refine v_iload_n (f := 1) 1 rfl dX12_makeSettled_0 ?_
  refine v_istore_n (g := 3) (i := 3) (ls' := [(3, bI _), (0, bR _), (1, bI _), (2, bI _)]) rfl (by decide) dX12_makeSettled_1 rfl ?_
  refine v_sub (ls2 := [(0, bR _), (1, bI _), (2, bI _), (3, bI _)]) [1, 2, 3, 0] rfl ?_
  refine l_X12_makeSettled_2 (b_wp_m (fun t h => ?_) (b_wp_b h))
  show V l E xX12_makeSettled (0, 0) 20 [(0, bR 11), (1, bI _), (2, bI _)] [] _ (b_pV Q)
  exact t_X12_makeSettled_b20 h
theorem cf_X12_makeSettled {l : Launch} {E : bE} {M : bM} {v1 : Int} {v2 : Int} {Q : bM → Prop} (h : b_wp (F_X12_makeSettled v1 v2 M) Q) : b_C l E xX12_makeSettled yX12_makeSettled [bR 11, bI v1, bI v2] M (b_pV Q) := b_met (by decide) ⟨rfl, rfl⟩ (Nat.le_of_ble_eq_true rfl) (fun _ _ => t_X12_makeSettled h)
abbrev xX12_settles : bX := ("BurntHallModel", prog_14_method_127_code, 2, (Option.some Jvm.ClassFile.FieldType.int), b_rm 7 0 0, 0, "settles")
abbrev yX12_settles : MethodName := ⟨"BurntHallModel", "settles", "(I)I"⟩
theorem dX12_settles_0 : decode prog_14_method_127_code 0 = .ok (.iload_n 1, 1) := by decide +kernel
theorem dX12_settles_1 : decode prog_14_method_127_code 1 = .ok (.iconst 0, 1) := by decide +kernel
theorem dX12_settles_2 : decode prog_14_method_127_code 2 = .ok (.iconst 1, 1) := by decide +kernel
theorem dX12_settles_3 : decode prog_14_method_127_code 3 = .ok (.aload_n 0, 1) := by decide +kernel
theorem dX12_settles_4 : decode prog_14_method_127_code 4 = .ok (.getfield 651, 3) := by decide +kernel
theorem dX12_settles_7 : decode prog_14_method_127_code 7 = .ok (.ishl, 1) := by decide +kernel
theorem dX12_settles_8 : decode prog_14_method_127_code 8 = .ok (.iconst 1, 1) := by decide +kernel
theorem dX12_settles_9 : decode prog_14_method_127_code 9 = .ok (.isub, 1) := by decide +kernel
theorem dX12_settles_10 : decode prog_14_method_127_code 10 = .ok (.invokestatic 279, 3) := by decide +kernel
theorem dX12_settles_13 : decode prog_14_method_127_code 13 = .ok (.ifCond .ne 6, 3) := by decide +kernel
theorem dX12_settles_16 : decode prog_14_method_127_code 16 = .ok (.bipush (-2), 2) := by decide +kernel
theorem dX12_settles_18 : decode prog_14_method_127_code 18 = .ok (.ireturn, 1) := by decide +kernel
theorem dX12_settles_19 : decode prog_14_method_127_code 19 = .ok (.aload_n 0, 1) := by decide +kernel
theorem dX12_settles_20 : decode prog_14_method_127_code 20 = .ok (.iload_n 1, 1) := by decide +kernel
theorem dX12_settles_21 : decode prog_14_method_127_code 21 = .ok (.iload_n 1, 1) := by decide +kernel
theorem dX12_settles_22 : decode prog_14_method_127_code 22 = .ok (.invokevirtual 657, 3) := by decide +kernel
theorem dX12_settles_25 : decode prog_14_method_127_code 25 = .ok (.aload_n 0, 1) := by decide +kernel
theorem dX12_settles_26 : decode prog_14_method_127_code 26 = .ok (.getfield 272, 3) := by decide +kernel
theorem dX12_settles_29 : decode prog_14_method_127_code 29 = .ok (.iload_n 1, 1) := by decide +kernel
theorem dX12_settles_30 : decode prog_14_method_127_code 30 = .ok (.iaload, 1) := by decide +kernel
theorem dX12_settles_31 : decode prog_14_method_127_code 31 = .ok (.ireturn, 1) := by decide +kernel
noncomputable def F_X12_settles (v1 : Int) (M : bM) : Option (Int × bM) :=
  b_g (b_i32 ((i_shl 1 (M 11 118)) - 1)) (b_bind (F_X12_in v1 0 ((i_shl 1 (M 11 118)) - 1) M) (fun x2 => if x2 = 0 then (some ((-2), M)) else (b_bind (F_X12_makeSettled v1 v1 M) (fun M4 => b_g (0 ≤ v1 ∧ v1 < 4096) (some ((M4 244 v1), M4))))))
theorem t_X12_settles {l : Launch} {E : bE} {Q : (Int × bM) → Prop} {v1 : Int} {M : bM} (h : b_wp (F_X12_settles v1 M) (Q)) : V l E xX12_settles (0, 0) 0 [(0, bR 11), (1, bI v1)] [] M (b_pI Q) := by
  unfold F_X12_settles at h
  obtain ⟨g1, h⟩ := b_wp_g h
  refine v_iload_n (f := 1) 1 rfl dX12_settles_0 ?_
  refine v_iconst ⟨by decide, by decide⟩ dX12_settles_1 ?_
  refine v_iconst ⟨by decide, by decide⟩ dX12_settles_2 ?_
  refine v_aload_n (f := 0) 0 rfl dX12_settles_3 ?_
  refine v_getI (kf := 118) (kz := 118) rfl kd_11 rfl ⟨by decide, by decide⟩ rfl wf_12_651 dX12_settles_4 ?_
  refine v_ishl (v := i_shl _ _) rfl dX12_settles_7 ?_
  refine v_iconst ⟨by decide, by decide⟩ dX12_settles_8 ?_
  refine v_isubN g1 dX12_settles_9 ?_
  refine v_cSIp (nA := 3) (As := [bI _, bI _, bI _]) (ix := 279) (cf_X12_in (b_wp_b h)) rfl wc_X12_in wm_12_279 wi_X12_in wn_12 ⟨by decide, by decide, by decide⟩ rfl ⟨by decide, by decide⟩ ⟨by decide, by decide⟩ (Nat.le_of_ble_eq_true rfl) dX12_settles_10 (fun x2 h => ?_)
  refine v_if_ne (tgt := 19) dX12_settles_13 (by decide) (fun c3 => ?_) (fun c3 => ?_)
  · replace h := b_wp_f c3 h
    refine v_aload_n (f := 0) 0 rfl dX12_settles_19 ?_
    refine v_iload_n (f := 1) 1 rfl dX12_settles_20 ?_
    refine v_iload_n (f := 1) 1 rfl dX12_settles_21 ?_
    refine v_cVV (nA := 2) (As := [bI _, bI _]) (ix := 657) (cf_X12_makeSettled (b_wp_b h)) rfl kd_11 rfl rfl wc_X12_makeSettled wm_12_657 wi_X12_makeSettled ws_X12_makeSettled wn_12 ⟨by decide, by decide, by decide⟩ rfl ⟨by decide, by decide⟩ ⟨by decide, by decide⟩ (Nat.le_of_ble_eq_true rfl) dX12_settles_22 (fun M4 h => ?_)
    obtain ⟨g5, h⟩ := b_wp_g h
    refine v_aload_n (f := 0) 0 rfl dX12_settles_25 ?_
    refine v_getR (kf := 124) (kz := 124) rfl kd_11 rfl ⟨by decide, by decide⟩ rfl wf_12_272 dX12_settles_26 ?_
    refine v_iload_n (f := 1) 1 rfl dX12_settles_29 ?_
    refine v_iaload kd_244 g5 (by decide) dX12_settles_30 ?_
    refine v_ireturn rfl dX12_settles_31 ⟨by decide, by decide⟩ ?_
    exact ⟨_, rfl, h⟩
  · replace h := b_wp_t c3 h
    refine v_bipush ⟨by decide, by decide⟩ (by decide) dX12_settles_16 ?_
    refine v_ireturn rfl dX12_settles_18 ⟨by decide, by decide⟩ ?_
    exact ⟨_, rfl, h⟩
theorem cf_X12_settles {l : Launch} {E : bE} {M : bM} {v1 : Int} {Q : (Int × bM) → Prop} (h : b_wp (F_X12_settles v1 M) Q) : b_C l E xX12_settles yX12_settles [bR 11, bI v1] M (b_pI Q) := b_met (by decide) ⟨rfl, rfl⟩ (Nat.le_of_ble_eq_true rfl) (fun _ _ => t_X12_settles h)
abbrev xX12_costOf : bX := ("BurntHallModel", prog_14_method_128_code, 4, (Option.some Jvm.ClassFile.FieldType.int), b_rm 1 0 0, 0, "costOf")
abbrev yX12_costOf : MethodName := ⟨"BurntHallModel", "costOf", "(I)I"⟩
theorem dX12_costOf_0 : decode prog_14_method_128_code 0 = .ok (.iconst 0, 1) := by decide +kernel
theorem dX12_costOf_1 : decode prog_14_method_128_code 1 = .ok (.istore_n 2, 1) := by decide +kernel
theorem dX12_costOf_2 : decode prog_14_method_128_code 2 = .ok (.iconst 0, 1) := by decide +kernel
theorem dX12_costOf_3 : decode prog_14_method_128_code 3 = .ok (.istore_n 3, 1) := by decide +kernel
theorem dX12_costOf_4 : decode prog_14_method_128_code 4 = .ok (.iload_n 3, 1) := by decide +kernel
theorem dX12_costOf_5 : decode prog_14_method_128_code 5 = .ok (.aload_n 0, 1) := by decide +kernel
theorem dX12_costOf_6 : decode prog_14_method_128_code 6 = .ok (.getfield 651, 3) := by decide +kernel
theorem dX12_costOf_9 : decode prog_14_method_128_code 9 = .ok (.if_icmp .ge 31, 3) := by decide +kernel
theorem dX12_costOf_12 : decode prog_14_method_128_code 12 = .ok (.iload_n 2, 1) := by decide +kernel
theorem dX12_costOf_13 : decode prog_14_method_128_code 13 = .ok (.iload_n 1, 1) := by decide +kernel
theorem dX12_costOf_14 : decode prog_14_method_128_code 14 = .ok (.iload_n 3, 1) := by decide +kernel
theorem dX12_costOf_15 : decode prog_14_method_128_code 15 = .ok (.ishr, 1) := by decide +kernel
theorem dX12_costOf_16 : decode prog_14_method_128_code 16 = .ok (.iconst 1, 1) := by decide +kernel
theorem dX12_costOf_17 : decode prog_14_method_128_code 17 = .ok (.iand, 1) := by decide +kernel
theorem dX12_costOf_18 : decode prog_14_method_128_code 18 = .ok (.iconst 1, 1) := by decide +kernel
theorem dX12_costOf_19 : decode prog_14_method_128_code 19 = .ok (.if_icmp .ne 12, 3) := by decide +kernel
theorem dX12_costOf_22 : decode prog_14_method_128_code 22 = .ok (.aload_n 0, 1) := by decide +kernel
theorem dX12_costOf_23 : decode prog_14_method_128_code 23 = .ok (.getfield 257, 3) := by decide +kernel
theorem dX12_costOf_26 : decode prog_14_method_128_code 26 = .ok (.iload_n 3, 1) := by decide +kernel
theorem dX12_costOf_27 : decode prog_14_method_128_code 27 = .ok (.iaload, 1) := by decide +kernel
theorem dX12_costOf_28 : decode prog_14_method_128_code 28 = .ok (.goto 4, 3) := by decide +kernel
theorem dX12_costOf_31 : decode prog_14_method_128_code 31 = .ok (.iconst 0, 1) := by decide +kernel
theorem dX12_costOf_32 : decode prog_14_method_128_code 32 = .ok (.iadd, 1) := by decide +kernel
theorem dX12_costOf_33 : decode prog_14_method_128_code 33 = .ok (.istore_n 2, 1) := by decide +kernel
theorem dX12_costOf_34 : decode prog_14_method_128_code 34 = .ok (.iinc 3 1, 3) := by decide +kernel
theorem dX12_costOf_37 : decode prog_14_method_128_code 37 = .ok (.goto (-33), 3) := by decide +kernel
theorem dX12_costOf_40 : decode prog_14_method_128_code 40 = .ok (.iload_n 2, 1) := by decide +kernel
theorem dX12_costOf_41 : decode prog_14_method_128_code 41 = .ok (.ireturn, 1) := by decide +kernel
abbrev A_X12_costOf_4 (l : Launch) (E : bE) (Q : Int → Prop) (v1 : Int) (M : bM) : (Int × Int) → Prop := (fun t : Int × Int => V l E xX12_costOf (0, 0) 4 [(0, bR 11), (1, bI v1), (2, bI (t.1)), (3, bI (t.2))] [] M (b_pIp M Q))
abbrev X_X12_costOf_4 (l : Launch) (E : bE) (Q : Int → Prop) (v1 : Int) (M : bM) : (Int) → Prop := (fun t : Int => V l E xX12_costOf (0, 0) 40 [(2, bI t)] [] M (b_pIp M Q))
noncomputable def F_X12_costOf_b32 (v1 : Int) (v3 : Int) (u0 : Int) (u1 : Int) (M : bM) : Option ((Int × Int) ⊕ (Int)) :=
  b_g ((b_i32 (u0 + u1)) ∧ (b_i32 (v3 + 1))) (some (.inl ((u0 + u1), (v3 + 1))))
theorem t_X12_costOf_b32 {l : Launch} {E : bE} {Q : Int → Prop} {v1 : Int} {v3 : Int} {u0 : Int} {u1 : Int} {M : bM} (h : b_wp (F_X12_costOf_b32 v1 v3 u0 u1 M) (Sum.elim (A_X12_costOf_4 l E Q v1 M) (X_X12_costOf_4 l E Q v1 M))) : V l E xX12_costOf (0, 0) 32 [(0, bR 11), (1, bI v1), (3, bI v3)] [bI u1, bI u0] M (b_pIp M Q) := by
  unfold F_X12_costOf_b32 at h
  obtain ⟨⟨g3, g4⟩, h⟩ := b_wp_g h
  refine v_iaddN g3 dX12_costOf_32 ?_
  refine v_istore_n (g := 2) (i := 2) (ls' := [(2, bI _), (0, bR _), (1, bI _), (3, bI _)]) rfl (by decide) dX12_costOf_33 rfl ?_
  refine v_iincN (ls' := [(3, bI _), (2, bI _), (0, bR _), (1, bI _)]) 3 rfl (by decide) g4 dX12_costOf_34 rfl ?_
  refine v_goto (tgt := 4) dX12_costOf_37 (by decide) ?_
  refine v_sub (ls2 := [(0, bR _), (1, bI _), (2, bI _), (3, bI _)]) [2, 3, 1, 0] rfl ?_
  exact h
noncomputable def F_X12_costOf_s4 (v1 : Int) (v2 : Int) (v3 : Int) (M : bM) : Option ((Int × Int) ⊕ (Int)) :=
  if (M 11 118) ≤ v3 then (some (.inr (v2))) else (if (i_and (i_shr v1 v3) 1) = 1 then (b_g (0 ≤ v3 ∧ v3 < 12) (F_X12_costOf_b32 v1 v3 v2 (M 241 v3) M)) else (F_X12_costOf_b32 v1 v3 v2 0 M))
theorem t_X12_costOf_s4 {l : Launch} {E : bE} {Q : Int → Prop} {v1 : Int} {v2 : Int} {v3 : Int} {M : bM} (h : b_wp (F_X12_costOf_s4 v1 v2 v3 M) (Sum.elim (A_X12_costOf_4 l E Q v1 M) (X_X12_costOf_4 l E Q v1 M))) : V l E xX12_costOf (0, 0) 4 [(0, bR 11), (1, bI v1), (2, bI v2), (3, bI v3)] [] M (b_pIp M Q) := by
  unfold F_X12_costOf_s4 at h
  refine v_iload_n (f := 3) 3 rfl dX12_costOf_4 ?_
  refine v_aload_n (f := 0) 0 rfl dX12_costOf_5 ?_
  refine v_getI (kf := 118) (kz := 118) rfl kd_11 rfl ⟨by decide, by decide⟩ rfl wf_12_651 dX12_costOf_6 ?_
  refine v_icmp_ge (tgt := 40) dX12_costOf_9 (by decide) (fun c1 => ?_) (fun c1 => ?_)
  · replace h := b_wp_t c1 h
    refine v_sub (ls2 := [(2, bI _)]) [2] rfl ?_
    exact h
  · replace h := b_wp_f c1 h
    refine v_iload_n (f := 2) 2 rfl dX12_costOf_12 ?_
    refine v_iload_n (f := 1) 1 rfl dX12_costOf_13 ?_
    refine v_iload_n (f := 3) 3 rfl dX12_costOf_14 ?_
    refine v_ishr (v := i_shr _ _) rfl dX12_costOf_15 ?_
    refine v_iconst ⟨by decide, by decide⟩ dX12_costOf_16 ?_
    refine v_iand (v := i_and _ _) rfl dX12_costOf_17 ?_
    refine v_iconst ⟨by decide, by decide⟩ dX12_costOf_18 ?_
    refine v_icmp_ne (tgt := 31) dX12_costOf_19 (by decide) (fun c2 => ?_) (fun c2 => ?_)
    · replace h := b_wp_f c2 h
      refine v_iconst ⟨by decide, by decide⟩ dX12_costOf_31 ?_
      refine v_sub (ls2 := [(0, bR _), (1, bI _), (3, bI _)]) [0, 1, 3] rfl ?_
      exact t_X12_costOf_b32 h
    · replace h := b_wp_t c2 h
      obtain ⟨g5, h⟩ := b_wp_g h
      refine v_aload_n (f := 0) 0 rfl dX12_costOf_22 ?_
      refine v_getR (kf := 119) (kz := 119) rfl kd_11 rfl ⟨by decide, by decide⟩ rfl wf_12_257 dX12_costOf_23 ?_
      refine v_iload_n (f := 3) 3 rfl dX12_costOf_26 ?_
      refine v_iaload kd_241 g5 (by decide) dX12_costOf_27 ?_
      refine v_goto (tgt := 32) dX12_costOf_28 (by decide) ?_
      refine v_sub (ls2 := [(0, bR _), (1, bI _), (3, bI _)]) [0, 1, 3] rfl ?_
      exact t_X12_costOf_b32 h
theorem l_X12_costOf_4 {l : Launch} {E : bE} {Q : Int → Prop} {v1 : Int} {M : bM} {s : Int × Int} (h : b_wp (b_loop (fun t => F_X12_costOf_s4 v1 t.1 t.2 M) s) (X_X12_costOf_4 l E Q v1 M)) : A_X12_costOf_4 l E Q v1 M s := b_loop_wp (fun t h => t_X12_costOf_s4 h) s h
noncomputable def F_X12_costOf_b40 (v2 : Int) (M : bM) : Option (Int) :=
  some v2
theorem t_X12_costOf_b40 {l : Launch} {E : bE} {Q : Int → Prop} {v2 : Int} {M : bM} (h : b_wp (F_X12_costOf_b40 v2 M) (Q)) : V l E xX12_costOf (0, 0) 40 [(2, bI v2)] [] M (b_pIp M Q) := by
  unfold F_X12_costOf_b40 at h
  refine v_iload_n (f := 2) 0 rfl dX12_costOf_40 ?_
  refine v_ireturn rfl dX12_costOf_41 ⟨by decide, by decide⟩ ?_
  exact ⟨_, rfl, rfl, h⟩
noncomputable def F_X12_costOf (v1 : Int) (M : bM) : Option (Int) :=
  b_bind (b_loop (fun t => F_X12_costOf_s4 v1 t.1 t.2 M) (0, 0)) (fun t => F_X12_costOf_b40 t M)
theorem t_X12_costOf {l : Launch} {E : bE} {Q : Int → Prop} {v1 : Int} {M : bM} (h : b_wp (F_X12_costOf v1 M) (Q)) : V l E xX12_costOf (0, 0) 0 [(0, bR 11), (1, bI v1)] [] M (b_pIp M Q) := by
  unfold F_X12_costOf at h
  refine v_iconst ⟨by decide, by decide⟩ dX12_costOf_0 ?_
  refine v_istore_n (g := 2) (i := 2) (ls' := [(2, bI _), (0, bR _), (1, bI _)]) rfl (by decide) dX12_costOf_1 rfl ?_
  refine v_iconst ⟨by decide, by decide⟩ dX12_costOf_2 ?_
  refine v_istore_n (g := 3) (i := 3) (ls' := [(3, bI _), (2, bI _), (0, bR _), (1, bI _)]) rfl (by decide) dX12_costOf_3 rfl ?_
  refine v_sub (ls2 := [(0, bR _), (1, bI _), (2, bI _), (3, bI _)]) [2, 3, 1, 0] rfl ?_
  refine l_X12_costOf_4 (b_wp_m (fun t h => ?_) (b_wp_b h))
  show V l E xX12_costOf (0, 0) 40 [(2, bI _)] [] _ (b_pIp M Q)
  exact t_X12_costOf_b40 h
theorem cf_X12_costOf {l : Launch} {E : bE} {M : bM} {v1 : Int} {Q : Int → Prop} (h : b_wp (F_X12_costOf v1 M) Q) : b_C l E xX12_costOf yX12_costOf [bR 11, bI v1] M (b_pIp M Q) := b_met (by decide) ⟨rfl, rfl⟩ (Nat.le_of_ble_eq_true rfl) (fun _ _ => t_X12_costOf h)
abbrev xX12_next : bX := ("BurntHallModel", prog_14_method_129_code, 5, (Option.some Jvm.ClassFile.FieldType.int), b_rm 7 0 0, 0, "next")
abbrev yX12_next : MethodName := ⟨"BurntHallModel", "next", "(I)I"⟩
theorem dX12_next_0 : decode prog_14_method_129_code 0 = .ok (.iload_n 1, 1) := by decide +kernel
theorem dX12_next_1 : decode prog_14_method_129_code 1 = .ok (.iconst 0, 1) := by decide +kernel
theorem dX12_next_2 : decode prog_14_method_129_code 2 = .ok (.sipush 1200, 3) := by decide +kernel
theorem dX12_next_5 : decode prog_14_method_129_code 5 = .ok (.invokestatic 279, 3) := by decide +kernel
theorem dX12_next_8 : decode prog_14_method_129_code 8 = .ok (.ifCond .ne 6, 3) := by decide +kernel
theorem dX12_next_11 : decode prog_14_method_129_code 11 = .ok (.bipush (-2), 2) := by decide +kernel
theorem dX12_next_13 : decode prog_14_method_129_code 13 = .ok (.ireturn, 1) := by decide +kernel
theorem dX12_next_14 : decode prog_14_method_129_code 14 = .ok (.aload_n 0, 1) := by decide +kernel
theorem dX12_next_15 : decode prog_14_method_129_code 15 = .ok (.iconst 0, 1) := by decide +kernel
theorem dX12_next_16 : decode prog_14_method_129_code 16 = .ok (.iconst 1, 1) := by decide +kernel
theorem dX12_next_17 : decode prog_14_method_129_code 17 = .ok (.aload_n 0, 1) := by decide +kernel
theorem dX12_next_18 : decode prog_14_method_129_code 18 = .ok (.getfield 651, 3) := by decide +kernel
theorem dX12_next_21 : decode prog_14_method_129_code 21 = .ok (.ishl, 1) := by decide +kernel
theorem dX12_next_22 : decode prog_14_method_129_code 22 = .ok (.iconst 1, 1) := by decide +kernel
theorem dX12_next_23 : decode prog_14_method_129_code 23 = .ok (.isub, 1) := by decide +kernel
theorem dX12_next_24 : decode prog_14_method_129_code 24 = .ok (.invokevirtual 657, 3) := by decide +kernel
theorem dX12_next_27 : decode prog_14_method_129_code 27 = .ok (.iconst 0, 1) := by decide +kernel
theorem dX12_next_28 : decode prog_14_method_129_code 28 = .ok (.istore_n 2, 1) := by decide +kernel
theorem dX12_next_29 : decode prog_14_method_129_code 29 = .ok (.iconst 1, 1) := by decide +kernel
theorem dX12_next_30 : decode prog_14_method_129_code 30 = .ok (.istore_n 3, 1) := by decide +kernel
theorem dX12_next_31 : decode prog_14_method_129_code 31 = .ok (.iload_n 3, 1) := by decide +kernel
theorem dX12_next_32 : decode prog_14_method_129_code 32 = .ok (.iconst 1, 1) := by decide +kernel
theorem dX12_next_33 : decode prog_14_method_129_code 33 = .ok (.aload_n 0, 1) := by decide +kernel
theorem dX12_next_34 : decode prog_14_method_129_code 34 = .ok (.getfield 651, 3) := by decide +kernel
theorem dX12_next_37 : decode prog_14_method_129_code 37 = .ok (.ishl, 1) := by decide +kernel
theorem dX12_next_38 : decode prog_14_method_129_code 38 = .ok (.if_icmp .ge 64, 3) := by decide +kernel
theorem dX12_next_41 : decode prog_14_method_129_code 41 = .ok (.aload_n 0, 1) := by decide +kernel
theorem dX12_next_42 : decode prog_14_method_129_code 42 = .ok (.iload_n 3, 1) := by decide +kernel
theorem dX12_next_43 : decode prog_14_method_129_code 43 = .ok (.invokevirtual 660, 3) := by decide +kernel
theorem dX12_next_46 : decode prog_14_method_129_code 46 = .ok (.istore 4, 2) := by decide +kernel
theorem dX12_next_48 : decode prog_14_method_129_code 48 = .ok (.iload 4, 2) := by decide +kernel
theorem dX12_next_50 : decode prog_14_method_129_code 50 = .ok (.iload_n 1, 1) := by decide +kernel
theorem dX12_next_51 : decode prog_14_method_129_code 51 = .ok (.if_icmp .gt 45, 3) := by decide +kernel
theorem dX12_next_54 : decode prog_14_method_129_code 54 = .ok (.aload_n 0, 1) := by decide +kernel
theorem dX12_next_55 : decode prog_14_method_129_code 55 = .ok (.getfield 272, 3) := by decide +kernel
theorem dX12_next_58 : decode prog_14_method_129_code 58 = .ok (.iload_n 3, 1) := by decide +kernel
theorem dX12_next_59 : decode prog_14_method_129_code 59 = .ok (.iaload, 1) := by decide +kernel
theorem dX12_next_60 : decode prog_14_method_129_code 60 = .ok (.aload_n 0, 1) := by decide +kernel
theorem dX12_next_61 : decode prog_14_method_129_code 61 = .ok (.getfield 272, 3) := by decide +kernel
theorem dX12_next_64 : decode prog_14_method_129_code 64 = .ok (.iload_n 2, 1) := by decide +kernel
theorem dX12_next_65 : decode prog_14_method_129_code 65 = .ok (.iaload, 1) := by decide +kernel
theorem dX12_next_66 : decode prog_14_method_129_code 66 = .ok (.if_icmp .gt 28, 3) := by decide +kernel
theorem dX12_next_69 : decode prog_14_method_129_code 69 = .ok (.aload_n 0, 1) := by decide +kernel
theorem dX12_next_70 : decode prog_14_method_129_code 70 = .ok (.getfield 272, 3) := by decide +kernel
theorem dX12_next_73 : decode prog_14_method_129_code 73 = .ok (.iload_n 3, 1) := by decide +kernel
theorem dX12_next_74 : decode prog_14_method_129_code 74 = .ok (.iaload, 1) := by decide +kernel
theorem dX12_next_75 : decode prog_14_method_129_code 75 = .ok (.aload_n 0, 1) := by decide +kernel
theorem dX12_next_76 : decode prog_14_method_129_code 76 = .ok (.getfield 272, 3) := by decide +kernel
theorem dX12_next_79 : decode prog_14_method_129_code 79 = .ok (.iload_n 2, 1) := by decide +kernel
theorem dX12_next_80 : decode prog_14_method_129_code 80 = .ok (.iaload, 1) := by decide +kernel
theorem dX12_next_81 : decode prog_14_method_129_code 81 = .ok (.if_icmp .ne 15, 3) := by decide +kernel
theorem dX12_next_84 : decode prog_14_method_129_code 84 = .ok (.iload 4, 2) := by decide +kernel
theorem dX12_next_86 : decode prog_14_method_129_code 86 = .ok (.aload_n 0, 1) := by decide +kernel
theorem dX12_next_87 : decode prog_14_method_129_code 87 = .ok (.iload_n 2, 1) := by decide +kernel
theorem dX12_next_88 : decode prog_14_method_129_code 88 = .ok (.invokevirtual 660, 3) := by decide +kernel
theorem dX12_next_91 : decode prog_14_method_129_code 91 = .ok (.if_icmp .ge 5, 3) := by decide +kernel
theorem dX12_next_94 : decode prog_14_method_129_code 94 = .ok (.iload_n 3, 1) := by decide +kernel
theorem dX12_next_95 : decode prog_14_method_129_code 95 = .ok (.istore_n 2, 1) := by decide +kernel
theorem dX12_next_96 : decode prog_14_method_129_code 96 = .ok (.iinc 3 1, 3) := by decide +kernel
theorem dX12_next_99 : decode prog_14_method_129_code 99 = .ok (.goto (-68), 3) := by decide +kernel
theorem dX12_next_102 : decode prog_14_method_129_code 102 = .ok (.aload_n 0, 1) := by decide +kernel
theorem dX12_next_103 : decode prog_14_method_129_code 103 = .ok (.iload_n 2, 1) := by decide +kernel
theorem dX12_next_104 : decode prog_14_method_129_code 104 = .ok (.putfield 266, 3) := by decide +kernel
theorem dX12_next_107 : decode prog_14_method_129_code 107 = .ok (.aload_n 0, 1) := by decide +kernel
theorem dX12_next_108 : decode prog_14_method_129_code 108 = .ok (.aload_n 0, 1) := by decide +kernel
theorem dX12_next_109 : decode prog_14_method_129_code 109 = .ok (.iload_n 2, 1) := by decide +kernel
theorem dX12_next_110 : decode prog_14_method_129_code 110 = .ok (.invokevirtual 660, 3) := by decide +kernel
theorem dX12_next_113 : decode prog_14_method_129_code 113 = .ok (.putfield 269, 3) := by decide +kernel
theorem dX12_next_116 : decode prog_14_method_129_code 116 = .ok (.aload_n 0, 1) := by decide +kernel
theorem dX12_next_117 : decode prog_14_method_129_code 117 = .ok (.getfield 272, 3) := by decide +kernel
theorem dX12_next_120 : decode prog_14_method_129_code 120 = .ok (.iload_n 2, 1) := by decide +kernel
theorem dX12_next_121 : decode prog_14_method_129_code 121 = .ok (.iaload, 1) := by decide +kernel
theorem dX12_next_122 : decode prog_14_method_129_code 122 = .ok (.ireturn, 1) := by decide +kernel
abbrev A_X12_next_31 (l : Launch) (E : bE) (Q : (Int × bM) → Prop) (v1 : Int) (M : bM) : (Int × Int) → Prop := (fun t : Int × Int => V l E xX12_next (0, 0) 31 [(0, bR 11), (1, bI v1), (2, bI (t.1)), (3, bI (t.2))] [] M (b_pI Q))
abbrev X_X12_next_31 (l : Launch) (E : bE) (Q : (Int × bM) → Prop) (v1 : Int) (M : bM) : (Int) → Prop := (fun t : Int => V l E xX12_next (0, 0) 102 [(0, bR 11), (2, bI t)] [] M (b_pI Q))
noncomputable def F_X12_next_s31 (v1 : Int) (v2 : Int) (v3 : Int) (M : bM) : Option ((Int × Int) ⊕ (Int)) :=
  if (i_shl 1 (M 11 118)) ≤ v3 then (some (.inr (v2))) else (b_bind (F_X12_costOf v3 M) (fun x6 => if v1 < x6 then (b_g (b_i32 (v3 + 1)) (some (.inl (v2, (v3 + 1))))) else (b_g ((0 ≤ v3 ∧ v3 < 4096) ∧ (0 ≤ v2 ∧ v2 < 4096)) (if (M 244 v2) < (M 244 v3) then (b_g (b_i32 (v3 + 1)) (some (.inl (v3, (v3 + 1))))) else (b_g ((0 ≤ v3 ∧ v3 < 4096) ∧ (0 ≤ v2 ∧ v2 < 4096)) (if (M 244 v3) = (M 244 v2) then (b_bind (F_X12_costOf v2 M) (fun x17 => if x17 ≤ x6 then (b_g (b_i32 (v3 + 1)) (some (.inl (v2, (v3 + 1))))) else (b_g (b_i32 (v3 + 1)) (some (.inl (v3, (v3 + 1))))))) else (b_g (b_i32 (v3 + 1)) (some (.inl (v2, (v3 + 1)))))))))))
theorem t_X12_next_s31 {l : Launch} {E : bE} {Q : (Int × bM) → Prop} {v1 : Int} {v2 : Int} {v3 : Int} {M : bM} (h : b_wp (F_X12_next_s31 v1 v2 v3 M) (Sum.elim (A_X12_next_31 l E Q v1 M) (X_X12_next_31 l E Q v1 M))) : V l E xX12_next (0, 0) 31 [(0, bR 11), (1, bI v1), (2, bI v2), (3, bI v3)] [] M (b_pI Q) := by
  unfold F_X12_next_s31 at h
  refine v_iload_n (f := 3) 3 rfl dX12_next_31 ?_
  refine v_iconst ⟨by decide, by decide⟩ dX12_next_32 ?_
  refine v_aload_n (f := 0) 0 rfl dX12_next_33 ?_
  refine v_getI (kf := 118) (kz := 118) rfl kd_11 rfl ⟨by decide, by decide⟩ rfl wf_12_651 dX12_next_34 ?_
  refine v_ishl (v := i_shl _ _) rfl dX12_next_37 ?_
  refine v_icmp_ge (tgt := 102) dX12_next_38 (by decide) (fun c5 => ?_) (fun c5 => ?_)
  · replace h := b_wp_t c5 h
    refine v_sub (ls2 := [(0, bR _), (2, bI _)]) [0, 2] rfl ?_
    exact h
  · replace h := b_wp_f c5 h
    refine v_aload_n (f := 0) 0 rfl dX12_next_41 ?_
    refine v_iload_n (f := 3) 3 rfl dX12_next_42 ?_
    refine v_cVIp (nA := 1) (As := [bI _]) (ix := 660) (cf_X12_costOf (b_wp_b h)) rfl kd_11 rfl rfl wc_X12_costOf wm_12_660 wi_X12_costOf ws_X12_costOf wn_12 ⟨by decide, by decide, by decide⟩ rfl ⟨by decide, by decide⟩ ⟨by decide, by decide⟩ (Nat.le_of_ble_eq_true rfl) dX12_next_43 (fun x6 h => ?_)
    refine v_istore (i := 4) (ls' := [(4, bI _), (0, bR _), (1, bI _), (2, bI _), (3, bI _)]) (by decide) dX12_next_46 rfl ?_
    refine v_iload (i := 4) 0 rfl dX12_next_48 ?_
    refine v_iload_n (f := 1) 2 rfl dX12_next_50 ?_
    refine v_icmp_gt (tgt := 96) dX12_next_51 (by decide) (fun c7 => ?_) (fun c7 => ?_)
    · replace h := b_wp_t c7 h
      obtain ⟨g8, h⟩ := b_wp_g h
      refine v_iincN (ls' := [(3, bI _), (4, bI _), (0, bR _), (1, bI _), (2, bI _)]) 4 rfl (by decide) g8 dX12_next_96 rfl ?_
      refine v_goto (tgt := 31) dX12_next_99 (by decide) ?_
      refine v_sub (ls2 := [(0, bR _), (1, bI _), (2, bI _), (3, bI _)]) [2, 3, 4, 0] rfl ?_
      exact h
    · replace h := b_wp_f c7 h
      obtain ⟨⟨g9, g10⟩, h⟩ := b_wp_g h
      refine v_aload_n (f := 0) 1 rfl dX12_next_54 ?_
      refine v_getR (kf := 124) (kz := 124) rfl kd_11 rfl ⟨by decide, by decide⟩ rfl wf_12_272 dX12_next_55 ?_
      refine v_iload_n (f := 3) 4 rfl dX12_next_58 ?_
      refine v_iaload kd_244 g9 (by decide) dX12_next_59 ?_
      refine v_aload_n (f := 0) 1 rfl dX12_next_60 ?_
      refine v_getR (kf := 124) (kz := 124) rfl kd_11 rfl ⟨by decide, by decide⟩ rfl wf_12_272 dX12_next_61 ?_
      refine v_iload_n (f := 2) 3 rfl dX12_next_64 ?_
      refine v_iaload kd_244 g10 (by decide) dX12_next_65 ?_
      refine v_icmp_gt (tgt := 94) dX12_next_66 (by decide) (fun c11 => ?_) (fun c11 => ?_)
      · replace h := b_wp_t c11 h
        obtain ⟨g12, h⟩ := b_wp_g h
        refine v_iload_n (f := 3) 4 rfl dX12_next_94 ?_
        refine v_istore_n (g := 2) (i := 2) (ls' := [(2, bI _), (4, bI _), (0, bR _), (1, bI _), (3, bI _)]) rfl (by decide) dX12_next_95 rfl ?_
        refine v_iincN (ls' := [(3, bI _), (2, bI _), (4, bI _), (0, bR _), (1, bI _)]) 4 rfl (by decide) g12 dX12_next_96 rfl ?_
        refine v_goto (tgt := 31) dX12_next_99 (by decide) ?_
        refine v_sub (ls2 := [(0, bR _), (1, bI _), (2, bI _), (3, bI _)]) [3, 4, 1, 0] rfl ?_
        exact h
      · replace h := b_wp_f c11 h
        obtain ⟨⟨g13, g14⟩, h⟩ := b_wp_g h
        refine v_aload_n (f := 0) 1 rfl dX12_next_69 ?_
        refine v_getR (kf := 124) (kz := 124) rfl kd_11 rfl ⟨by decide, by decide⟩ rfl wf_12_272 dX12_next_70 ?_
        refine v_iload_n (f := 3) 4 rfl dX12_next_73 ?_
        refine v_iaload kd_244 g13 (by decide) dX12_next_74 ?_
        refine v_aload_n (f := 0) 1 rfl dX12_next_75 ?_
        refine v_getR (kf := 124) (kz := 124) rfl kd_11 rfl ⟨by decide, by decide⟩ rfl wf_12_272 dX12_next_76 ?_
        refine v_iload_n (f := 2) 3 rfl dX12_next_79 ?_
        refine v_iaload kd_244 g14 (by decide) dX12_next_80 ?_
        refine v_icmp_ne (tgt := 96) dX12_next_81 (by decide) (fun c15 => ?_) (fun c15 => ?_)
        · replace h := b_wp_f c15 h
          obtain ⟨g16, h⟩ := b_wp_g h
          refine v_iincN (ls' := [(3, bI _), (4, bI _), (0, bR _), (1, bI _), (2, bI _)]) 4 rfl (by decide) g16 dX12_next_96 rfl ?_
          refine v_goto (tgt := 31) dX12_next_99 (by decide) ?_
          refine v_sub (ls2 := [(0, bR _), (1, bI _), (2, bI _), (3, bI _)]) [2, 3, 4, 0] rfl ?_
          exact h
        · replace h := b_wp_t c15 h
          refine v_iload (i := 4) 0 rfl dX12_next_84 ?_
          refine v_aload_n (f := 0) 1 rfl dX12_next_86 ?_
          refine v_iload_n (f := 2) 3 rfl dX12_next_87 ?_
          refine v_cVIp (nA := 1) (As := [bI _]) (ix := 660) (cf_X12_costOf (b_wp_b h)) rfl kd_11 rfl rfl wc_X12_costOf wm_12_660 wi_X12_costOf ws_X12_costOf wn_12 ⟨by decide, by decide, by decide⟩ rfl ⟨by decide, by decide⟩ ⟨by decide, by decide⟩ (Nat.le_of_ble_eq_true rfl) dX12_next_88 (fun x17 h => ?_)
          refine v_icmp_ge (tgt := 96) dX12_next_91 (by decide) (fun c18 => ?_) (fun c18 => ?_)
          · replace h := b_wp_t c18 h
            obtain ⟨g19, h⟩ := b_wp_g h
            refine v_iincN (ls' := [(3, bI _), (4, bI _), (0, bR _), (1, bI _), (2, bI _)]) 4 rfl (by decide) g19 dX12_next_96 rfl ?_
            refine v_goto (tgt := 31) dX12_next_99 (by decide) ?_
            refine v_sub (ls2 := [(0, bR _), (1, bI _), (2, bI _), (3, bI _)]) [2, 3, 4, 0] rfl ?_
            exact h
          · replace h := b_wp_f c18 h
            obtain ⟨g20, h⟩ := b_wp_g h
            refine v_iload_n (f := 3) 4 rfl dX12_next_94 ?_
            refine v_istore_n (g := 2) (i := 2) (ls' := [(2, bI _), (4, bI _), (0, bR _), (1, bI _), (3, bI _)]) rfl (by decide) dX12_next_95 rfl ?_
            refine v_iincN (ls' := [(3, bI _), (2, bI _), (4, bI _), (0, bR _), (1, bI _)]) 4 rfl (by decide) g20 dX12_next_96 rfl ?_
            refine v_goto (tgt := 31) dX12_next_99 (by decide) ?_
            refine v_sub (ls2 := [(0, bR _), (1, bI _), (2, bI _), (3, bI _)]) [3, 4, 1, 0] rfl ?_
            exact h
theorem l_X12_next_31 {l : Launch} {E : bE} {Q : (Int × bM) → Prop} {v1 : Int} {M : bM} {s : Int × Int} (h : b_wp (b_loop (fun t => F_X12_next_s31 v1 t.1 t.2 M) s) (X_X12_next_31 l E Q v1 M)) : A_X12_next_31 l E Q v1 M s := b_loop_wp (fun t h => t_X12_next_s31 h) s h
noncomputable def F_X12_next_b102 (v2 : Int) (M : bM) : Option (Int × bM) :=
  b_let (b_up M 11 122 v2) (fun M21 => b_bind (F_X12_costOf v2 M21) (fun x22 => b_let (b_up M21 11 123 x22) (fun M23 => b_g (0 ≤ v2 ∧ v2 < 4096) (some ((M23 244 v2), M23)))))
theorem t_X12_next_b102 {l : Launch} {E : bE} {Q : (Int × bM) → Prop} {v2 : Int} {M : bM} (h : b_wp (F_X12_next_b102 v2 M) (Q)) : V l E xX12_next (0, 0) 102 [(0, bR 11), (2, bI v2)] [] M (b_pI Q) := by
  unfold F_X12_next_b102 at h
  refine v_aload_n (f := 0) 0 rfl dX12_next_102 ?_
  refine v_iload_n (f := 2) 1 rfl dX12_next_103 ?_
  refine v_putI (kf := 122) (kz := 122) rfl kd_11 rfl ⟨by decide, by decide⟩ rfl wf_12_266 rfl rfl dX12_next_104 ?_
  replace h := b_wp_l h
  refine v_aload_n (f := 0) 0 rfl dX12_next_107 ?_
  refine v_aload_n (f := 0) 0 rfl dX12_next_108 ?_
  refine v_iload_n (f := 2) 1 rfl dX12_next_109 ?_
  refine v_cVIp (nA := 1) (As := [bI _]) (ix := 660) (cf_X12_costOf (b_wp_b h)) rfl kd_11 rfl rfl wc_X12_costOf wm_12_660 wi_X12_costOf ws_X12_costOf wn_12 ⟨by decide, by decide, by decide⟩ rfl ⟨by decide, by decide⟩ ⟨by decide, by decide⟩ (Nat.le_of_ble_eq_true rfl) dX12_next_110 (fun x22 h => ?_)
  refine v_putI (kf := 123) (kz := 123) rfl kd_11 rfl ⟨by decide, by decide⟩ rfl wf_12_269 rfl rfl dX12_next_113 ?_
  replace h := b_wp_l h
  obtain ⟨g24, h⟩ := b_wp_g h
  refine v_aload_n (f := 0) 0 rfl dX12_next_116 ?_
  refine v_getR (kf := 124) (kz := 124) rfl kd_11 rfl ⟨by decide, by decide⟩ rfl wf_12_272 dX12_next_117 ?_
  refine v_iload_n (f := 2) 1 rfl dX12_next_120 ?_
  refine v_iaload kd_244 g24 (by decide) dX12_next_121 ?_
  refine v_ireturn rfl dX12_next_122 ⟨by decide, by decide⟩ ?_
  exact ⟨_, rfl, h⟩
noncomputable def F_X12_next (v1 : Int) (M : bM) : Option (Int × bM) :=
  b_bind (F_X12_in v1 0 1200 M) (fun x1 => if x1 = 0 then (some ((-2), M)) else (b_g (b_i32 ((i_shl 1 (M 11 118)) - 1)) (b_bind (F_X12_makeSettled 0 ((i_shl 1 (M 11 118)) - 1) M) (fun M4 => b_bind (b_loop (fun t => F_X12_next_s31 v1 t.1 t.2 M4) (0, 1)) (fun t => F_X12_next_b102 t M4)))))
theorem t_X12_next {l : Launch} {E : bE} {Q : (Int × bM) → Prop} {v1 : Int} {M : bM} (h : b_wp (F_X12_next v1 M) (Q)) : V l E xX12_next (0, 0) 0 [(0, bR 11), (1, bI v1)] [] M (b_pI Q) := by
  unfold F_X12_next at h
  refine v_iload_n (f := 1) 1 rfl dX12_next_0 ?_
  refine v_iconst ⟨by decide, by decide⟩ dX12_next_1 ?_
  refine v_sipush ⟨by decide, by decide⟩ (by decide) dX12_next_2 ?_
  refine v_cSIp (nA := 3) (As := [bI _, bI _, bI _]) (ix := 279) (cf_X12_in (b_wp_b h)) rfl wc_X12_in wm_12_279 wi_X12_in wn_12 ⟨by decide, by decide, by decide⟩ rfl ⟨by decide, by decide⟩ ⟨by decide, by decide⟩ (Nat.le_of_ble_eq_true rfl) dX12_next_5 (fun x1 h => ?_)
  refine v_if_ne (tgt := 14) dX12_next_8 (by decide) (fun c2 => ?_) (fun c2 => ?_)
  · replace h := b_wp_f c2 h
    obtain ⟨g3, h⟩ := b_wp_g h
    refine v_aload_n (f := 0) 0 rfl dX12_next_14 ?_
    refine v_iconst ⟨by decide, by decide⟩ dX12_next_15 ?_
    refine v_iconst ⟨by decide, by decide⟩ dX12_next_16 ?_
    refine v_aload_n (f := 0) 0 rfl dX12_next_17 ?_
    refine v_getI (kf := 118) (kz := 118) rfl kd_11 rfl ⟨by decide, by decide⟩ rfl wf_12_651 dX12_next_18 ?_
    refine v_ishl (v := i_shl _ _) rfl dX12_next_21 ?_
    refine v_iconst ⟨by decide, by decide⟩ dX12_next_22 ?_
    refine v_isubN g3 dX12_next_23 ?_
    refine v_cVV (nA := 2) (As := [bI _, bI _]) (ix := 657) (cf_X12_makeSettled (b_wp_b h)) rfl kd_11 rfl rfl wc_X12_makeSettled wm_12_657 wi_X12_makeSettled ws_X12_makeSettled wn_12 ⟨by decide, by decide, by decide⟩ rfl ⟨by decide, by decide⟩ ⟨by decide, by decide⟩ (Nat.le_of_ble_eq_true rfl) dX12_next_24 (fun M4 h => ?_)
    refine v_iconst ⟨by decide, by decide⟩ dX12_next_27 ?_
    refine v_istore_n (g := 2) (i := 2) (ls' := [(2, bI _), (0, bR _), (1, bI _)]) rfl (by decide) dX12_next_28 rfl ?_
    refine v_iconst ⟨by decide, by decide⟩ dX12_next_29 ?_
    refine v_istore_n (g := 3) (i := 3) (ls' := [(3, bI _), (2, bI _), (0, bR _), (1, bI _)]) rfl (by decide) dX12_next_30 rfl ?_
    refine v_sub (ls2 := [(0, bR _), (1, bI _), (2, bI _), (3, bI _)]) [2, 3, 1, 0] rfl ?_
    refine l_X12_next_31 (b_wp_m (fun t h => ?_) (b_wp_b h))
    show V l E xX12_next (0, 0) 102 [(0, bR 11), (2, bI _)] [] _ (b_pI Q)
    exact t_X12_next_b102 h
  · replace h := b_wp_t c2 h
    refine v_bipush ⟨by decide, by decide⟩ (by decide) dX12_next_11 ?_
    refine v_ireturn rfl dX12_next_13 ⟨by decide, by decide⟩ ?_
    exact ⟨_, rfl, h⟩
theorem cf_X12_next {l : Launch} {E : bE} {M : bM} {v1 : Int} {Q : (Int × bM) → Prop} (h : b_wp (F_X12_next v1 M) Q) : b_C l E xX12_next yX12_next [bR 11, bI v1] M (b_pI Q) := b_met (by decide) ⟨rfl, rfl⟩ (Nat.le_of_ble_eq_true rfl) (fun _ _ => t_X12_next h)
abbrev xX12_looked : bX := ("BurntHallModel", prog_14_method_130_code, 2, (Option.some Jvm.ClassFile.FieldType.int), b_rm 1 0 0, 0, "looked")
abbrev yX12_looked : MethodName := ⟨"BurntHallModel", "looked", "(I)I"⟩
theorem dX12_looked_0 : decode prog_14_method_130_code 0 = .ok (.iload_n 1, 1) := by decide +kernel
theorem dX12_looked_1 : decode prog_14_method_130_code 1 = .ok (.ifCond .ne 10, 3) := by decide +kernel
theorem dX12_looked_4 : decode prog_14_method_130_code 4 = .ok (.aload_n 0, 1) := by decide +kernel
theorem dX12_looked_5 : decode prog_14_method_130_code 5 = .ok (.getfield 266, 3) := by decide +kernel
theorem dX12_looked_8 : decode prog_14_method_130_code 8 = .ok (.goto 16, 3) := by decide +kernel
theorem dX12_looked_11 : decode prog_14_method_130_code 11 = .ok (.iload_n 1, 1) := by decide +kernel
theorem dX12_looked_12 : decode prog_14_method_130_code 12 = .ok (.iconst 1, 1) := by decide +kernel
theorem dX12_looked_13 : decode prog_14_method_130_code 13 = .ok (.if_icmp .ne 10, 3) := by decide +kernel
theorem dX12_looked_16 : decode prog_14_method_130_code 16 = .ok (.aload_n 0, 1) := by decide +kernel
theorem dX12_looked_17 : decode prog_14_method_130_code 17 = .ok (.getfield 269, 3) := by decide +kernel
theorem dX12_looked_20 : decode prog_14_method_130_code 20 = .ok (.goto 4, 3) := by decide +kernel
theorem dX12_looked_23 : decode prog_14_method_130_code 23 = .ok (.iconst (-1), 1) := by decide +kernel
theorem dX12_looked_24 : decode prog_14_method_130_code 24 = .ok (.ireturn, 1) := by decide +kernel
noncomputable def F_X12_looked (v1 : Int) (M : bM) : Option (Int) :=
  if v1 = 0 then (some (M 11 122)) else (if v1 = 1 then (some (M 11 123)) else (some (-1)))
theorem t_X12_looked {l : Launch} {E : bE} {Q : Int → Prop} {v1 : Int} {M : bM} (h : b_wp (F_X12_looked v1 M) (Q)) : V l E xX12_looked (0, 0) 0 [(0, bR 11), (1, bI v1)] [] M (b_pIp M Q) := by
  unfold F_X12_looked at h
  refine v_iload_n (f := 1) 1 rfl dX12_looked_0 ?_
  refine v_if_ne (tgt := 11) dX12_looked_1 (by decide) (fun c1 => ?_) (fun c1 => ?_)
  · replace h := b_wp_f c1 h
    refine v_iload_n (f := 1) 1 rfl dX12_looked_11 ?_
    refine v_iconst ⟨by decide, by decide⟩ dX12_looked_12 ?_
    refine v_icmp_ne (tgt := 23) dX12_looked_13 (by decide) (fun c2 => ?_) (fun c2 => ?_)
    · replace h := b_wp_f c2 h
      refine v_iconst ⟨by decide, by decide⟩ dX12_looked_23 ?_
      refine v_ireturn rfl dX12_looked_24 ⟨by decide, by decide⟩ ?_
      exact ⟨_, rfl, rfl, h⟩
    · replace h := b_wp_t c2 h
      refine v_aload_n (f := 0) 0 rfl dX12_looked_16 ?_
      refine v_getI (kf := 123) (kz := 123) rfl kd_11 rfl ⟨by decide, by decide⟩ rfl wf_12_269 dX12_looked_17 ?_
      refine v_goto (tgt := 24) dX12_looked_20 (by decide) ?_
      refine v_ireturn rfl dX12_looked_24 ⟨by decide, by decide⟩ ?_
      exact ⟨_, rfl, rfl, h⟩
  · replace h := b_wp_t c1 h
    refine v_aload_n (f := 0) 0 rfl dX12_looked_4 ?_
    refine v_getI (kf := 122) (kz := 122) rfl kd_11 rfl ⟨by decide, by decide⟩ rfl wf_12_266 dX12_looked_5 ?_
    refine v_goto (tgt := 24) dX12_looked_8 (by decide) ?_
    refine v_ireturn rfl dX12_looked_24 ⟨by decide, by decide⟩ ?_
    exact ⟨_, rfl, rfl, h⟩
theorem cf_X12_looked {l : Launch} {E : bE} {M : bM} {v1 : Int} {Q : Int → Prop} (h : b_wp (F_X12_looked v1 M) Q) : b_C l E xX12_looked yX12_looked [bR 11, bI v1] M (b_pIp M Q) := b_met (by decide) ⟨rfl, rfl⟩ (Nat.le_of_ble_eq_true rfl) (fun _ _ => t_X12_looked h)
abbrev xX12_count : bX := ("BurntHallModel", prog_14_method_131_code, 4, (Option.some Jvm.ClassFile.FieldType.int), b_rm 3 0 0, 0, "count")
abbrev yX12_count : MethodName := ⟨"BurntHallModel", "count", "(I)I"⟩
theorem dX12_count_0 : decode prog_14_method_131_code 0 = .ok (.iconst 0, 1) := by decide +kernel
theorem dX12_count_1 : decode prog_14_method_131_code 1 = .ok (.istore_n 2, 1) := by decide +kernel
theorem dX12_count_2 : decode prog_14_method_131_code 2 = .ok (.iload_n 1, 1) := by decide +kernel
theorem dX12_count_3 : decode prog_14_method_131_code 3 = .ok (.tableswitch 121 0 11 #[61, 66, 71, 76, 81, 86, 91, 96, 101, 106, 111, 116], 61) := by decide +kernel
theorem dX12_count_64 : decode prog_14_method_131_code 64 = .ok (.aload_n 0, 1) := by decide +kernel
theorem dX12_count_65 : decode prog_14_method_131_code 65 = .ok (.getfield 344, 3) := by decide +kernel
theorem dX12_count_68 : decode prog_14_method_131_code 68 = .ok (.ireturn, 1) := by decide +kernel
theorem dX12_count_69 : decode prog_14_method_131_code 69 = .ok (.aload_n 0, 1) := by decide +kernel
theorem dX12_count_70 : decode prog_14_method_131_code 70 = .ok (.getfield 350, 3) := by decide +kernel
theorem dX12_count_73 : decode prog_14_method_131_code 73 = .ok (.ireturn, 1) := by decide +kernel
theorem dX12_count_74 : decode prog_14_method_131_code 74 = .ok (.aload_n 0, 1) := by decide +kernel
theorem dX12_count_75 : decode prog_14_method_131_code 75 = .ok (.getfield 353, 3) := by decide +kernel
theorem dX12_count_78 : decode prog_14_method_131_code 78 = .ok (.ireturn, 1) := by decide +kernel
theorem dX12_count_79 : decode prog_14_method_131_code 79 = .ok (.aload_n 0, 1) := by decide +kernel
theorem dX12_count_80 : decode prog_14_method_131_code 80 = .ok (.getfield 374, 3) := by decide +kernel
theorem dX12_count_83 : decode prog_14_method_131_code 83 = .ok (.ireturn, 1) := by decide +kernel
theorem dX12_count_84 : decode prog_14_method_131_code 84 = .ok (.aload_n 0, 1) := by decide +kernel
theorem dX12_count_85 : decode prog_14_method_131_code 85 = .ok (.getfield 487, 3) := by decide +kernel
theorem dX12_count_88 : decode prog_14_method_131_code 88 = .ok (.ireturn, 1) := by decide +kernel
theorem dX12_count_89 : decode prog_14_method_131_code 89 = .ok (.aload_n 0, 1) := by decide +kernel
theorem dX12_count_90 : decode prog_14_method_131_code 90 = .ok (.getfield 496, 3) := by decide +kernel
theorem dX12_count_93 : decode prog_14_method_131_code 93 = .ok (.ireturn, 1) := by decide +kernel
theorem dX12_count_94 : decode prog_14_method_131_code 94 = .ok (.aload_n 0, 1) := by decide +kernel
theorem dX12_count_95 : decode prog_14_method_131_code 95 = .ok (.getfield 502, 3) := by decide +kernel
theorem dX12_count_98 : decode prog_14_method_131_code 98 = .ok (.ireturn, 1) := by decide +kernel
theorem dX12_count_99 : decode prog_14_method_131_code 99 = .ok (.aload_n 0, 1) := by decide +kernel
theorem dX12_count_100 : decode prog_14_method_131_code 100 = .ok (.getfield 623, 3) := by decide +kernel
theorem dX12_count_103 : decode prog_14_method_131_code 103 = .ok (.ireturn, 1) := by decide +kernel
theorem dX12_count_104 : decode prog_14_method_131_code 104 = .ok (.aload_n 0, 1) := by decide +kernel
theorem dX12_count_105 : decode prog_14_method_131_code 105 = .ok (.getfield 635, 3) := by decide +kernel
theorem dX12_count_108 : decode prog_14_method_131_code 108 = .ok (.ireturn, 1) := by decide +kernel
theorem dX12_count_109 : decode prog_14_method_131_code 109 = .ok (.aload_n 0, 1) := by decide +kernel
theorem dX12_count_110 : decode prog_14_method_131_code 110 = .ok (.getfield 647, 3) := by decide +kernel
theorem dX12_count_113 : decode prog_14_method_131_code 113 = .ok (.ireturn, 1) := by decide +kernel
theorem dX12_count_114 : decode prog_14_method_131_code 114 = .ok (.aload_n 0, 1) := by decide +kernel
theorem dX12_count_115 : decode prog_14_method_131_code 115 = .ok (.getfield 651, 3) := by decide +kernel
theorem dX12_count_118 : decode prog_14_method_131_code 118 = .ok (.ireturn, 1) := by decide +kernel
theorem dX12_count_119 : decode prog_14_method_131_code 119 = .ok (.aload_n 0, 1) := by decide +kernel
theorem dX12_count_120 : decode prog_14_method_131_code 120 = .ok (.getfield 283, 3) := by decide +kernel
theorem dX12_count_123 : decode prog_14_method_131_code 123 = .ok (.ireturn, 1) := by decide +kernel
theorem dX12_count_124 : decode prog_14_method_131_code 124 = .ok (.iload_n 1, 1) := by decide +kernel
theorem dX12_count_125 : decode prog_14_method_131_code 125 = .ok (.bipush 20, 2) := by decide +kernel
theorem dX12_count_127 : decode prog_14_method_131_code 127 = .ok (.bipush 23, 2) := by decide +kernel
theorem dX12_count_129 : decode prog_14_method_131_code 129 = .ok (.invokestatic 279, 3) := by decide +kernel
theorem dX12_count_132 : decode prog_14_method_131_code 132 = .ok (.ifCond .ne 5, 3) := by decide +kernel
theorem dX12_count_135 : decode prog_14_method_131_code 135 = .ok (.iconst (-1), 1) := by decide +kernel
theorem dX12_count_136 : decode prog_14_method_131_code 136 = .ok (.ireturn, 1) := by decide +kernel
theorem dX12_count_137 : decode prog_14_method_131_code 137 = .ok (.iconst 0, 1) := by decide +kernel
theorem dX12_count_138 : decode prog_14_method_131_code 138 = .ok (.istore_n 3, 1) := by decide +kernel
theorem dX12_count_139 : decode prog_14_method_131_code 139 = .ok (.iload_n 3, 1) := by decide +kernel
theorem dX12_count_140 : decode prog_14_method_131_code 140 = .ok (.aload_n 0, 1) := by decide +kernel
theorem dX12_count_141 : decode prog_14_method_131_code 141 = .ok (.getfield 635, 3) := by decide +kernel
theorem dX12_count_144 : decode prog_14_method_131_code 144 = .ok (.if_icmp .ge 29, 3) := by decide +kernel
theorem dX12_count_147 : decode prog_14_method_131_code 147 = .ok (.iload_n 2, 1) := by decide +kernel
theorem dX12_count_148 : decode prog_14_method_131_code 148 = .ok (.aload_n 0, 1) := by decide +kernel
theorem dX12_count_149 : decode prog_14_method_131_code 149 = .ok (.iload_n 3, 1) := by decide +kernel
theorem dX12_count_150 : decode prog_14_method_131_code 150 = .ok (.invokevirtual 644, 3) := by decide +kernel
theorem dX12_count_153 : decode prog_14_method_131_code 153 = .ok (.iload_n 1, 1) := by decide +kernel
theorem dX12_count_154 : decode prog_14_method_131_code 154 = .ok (.bipush 20, 2) := by decide +kernel
theorem dX12_count_156 : decode prog_14_method_131_code 156 = .ok (.isub, 1) := by decide +kernel
theorem dX12_count_157 : decode prog_14_method_131_code 157 = .ok (.if_icmp .ne 7, 3) := by decide +kernel
theorem dX12_count_160 : decode prog_14_method_131_code 160 = .ok (.iconst 1, 1) := by decide +kernel
theorem dX12_count_161 : decode prog_14_method_131_code 161 = .ok (.goto 4, 3) := by decide +kernel
theorem dX12_count_164 : decode prog_14_method_131_code 164 = .ok (.iconst 0, 1) := by decide +kernel
theorem dX12_count_165 : decode prog_14_method_131_code 165 = .ok (.iadd, 1) := by decide +kernel
theorem dX12_count_166 : decode prog_14_method_131_code 166 = .ok (.istore_n 2, 1) := by decide +kernel
theorem dX12_count_167 : decode prog_14_method_131_code 167 = .ok (.iinc 3 1, 3) := by decide +kernel
theorem dX12_count_170 : decode prog_14_method_131_code 170 = .ok (.goto (-31), 3) := by decide +kernel
theorem dX12_count_173 : decode prog_14_method_131_code 173 = .ok (.iload_n 2, 1) := by decide +kernel
theorem dX12_count_174 : decode prog_14_method_131_code 174 = .ok (.ireturn, 1) := by decide +kernel
abbrev A_X12_count_139 (l : Launch) (E : bE) (Q : Int → Prop) (v1 : Int) (M : bM) : (Int × Int) → Prop := (fun t : Int × Int => V l E xX12_count (0, 0) 139 [(0, bR 11), (1, bI v1), (2, bI (t.1)), (3, bI (t.2))] [] M (b_pIp M Q))
abbrev X_X12_count_139 (l : Launch) (E : bE) (Q : Int → Prop) (v1 : Int) (M : bM) : (Int) → Prop := (fun t : Int => V l E xX12_count (0, 0) 173 [(2, bI t)] [] M (b_pIp M Q))
noncomputable def F_X12_count_b165 (v1 : Int) (v3 : Int) (u0 : Int) (u1 : Int) (M : bM) : Option ((Int × Int) ⊕ (Int)) :=
  b_g ((b_i32 (u0 + u1)) ∧ (b_i32 (v3 + 1))) (some (.inl ((u0 + u1), (v3 + 1))))
theorem t_X12_count_b165 {l : Launch} {E : bE} {Q : Int → Prop} {v1 : Int} {v3 : Int} {u0 : Int} {u1 : Int} {M : bM} (h : b_wp (F_X12_count_b165 v1 v3 u0 u1 M) (Sum.elim (A_X12_count_139 l E Q v1 M) (X_X12_count_139 l E Q v1 M))) : V l E xX12_count (0, 0) 165 [(0, bR 11), (1, bI v1), (3, bI v3)] [bI u1, bI u0] M (b_pIp M Q) := by
  unfold F_X12_count_b165 at h
  obtain ⟨⟨g31, g32⟩, h⟩ := b_wp_g h
  refine v_iaddN g31 dX12_count_165 ?_
  refine v_istore_n (g := 2) (i := 2) (ls' := [(2, bI _), (0, bR _), (1, bI _), (3, bI _)]) rfl (by decide) dX12_count_166 rfl ?_
  refine v_iincN (ls' := [(3, bI _), (2, bI _), (0, bR _), (1, bI _)]) 3 rfl (by decide) g32 dX12_count_167 rfl ?_
  refine v_goto (tgt := 139) dX12_count_170 (by decide) ?_
  refine v_sub (ls2 := [(0, bR _), (1, bI _), (2, bI _), (3, bI _)]) [2, 3, 1, 0] rfl ?_
  exact h
noncomputable def F_X12_count_s139 (v1 : Int) (v2 : Int) (v3 : Int) (M : bM) : Option ((Int × Int) ⊕ (Int)) :=
  if (M 11 106) ≤ v3 then (some (.inr (v2))) else (b_bind (F_X12_ruledAs v3 M) (fun x28 => b_g (b_i32 (v1 - 20)) (if x28 = (v1 - 20) then (F_X12_count_b165 v1 v3 v2 1 M) else (F_X12_count_b165 v1 v3 v2 0 M))))
theorem t_X12_count_s139 {l : Launch} {E : bE} {Q : Int → Prop} {v1 : Int} {v2 : Int} {v3 : Int} {M : bM} (h : b_wp (F_X12_count_s139 v1 v2 v3 M) (Sum.elim (A_X12_count_139 l E Q v1 M) (X_X12_count_139 l E Q v1 M))) : V l E xX12_count (0, 0) 139 [(0, bR 11), (1, bI v1), (2, bI v2), (3, bI v3)] [] M (b_pIp M Q) := by
  unfold F_X12_count_s139 at h
  refine v_iload_n (f := 3) 3 rfl dX12_count_139 ?_
  refine v_aload_n (f := 0) 0 rfl dX12_count_140 ?_
  refine v_getI (kf := 106) (kz := 106) rfl kd_11 rfl ⟨by decide, by decide⟩ rfl wf_12_635 dX12_count_141 ?_
  refine v_icmp_ge (tgt := 173) dX12_count_144 (by decide) (fun c27 => ?_) (fun c27 => ?_)
  · replace h := b_wp_t c27 h
    refine v_sub (ls2 := [(2, bI _)]) [2] rfl ?_
    exact h
  · replace h := b_wp_f c27 h
    refine v_iload_n (f := 2) 2 rfl dX12_count_147 ?_
    refine v_aload_n (f := 0) 0 rfl dX12_count_148 ?_
    refine v_iload_n (f := 3) 3 rfl dX12_count_149 ?_
    refine v_cVIp (nA := 1) (As := [bI _]) (ix := 644) (cf_X12_ruledAs (b_wp_b h)) rfl kd_11 rfl rfl wc_X12_ruledAs wm_12_644 wi_X12_ruledAs ws_X12_ruledAs wn_12 ⟨by decide, by decide, by decide⟩ rfl ⟨by decide, by decide⟩ ⟨by decide, by decide⟩ (Nat.le_of_ble_eq_true rfl) dX12_count_150 (fun x28 h => ?_)
    obtain ⟨g29, h⟩ := b_wp_g h
    refine v_iload_n (f := 1) 1 rfl dX12_count_153 ?_
    refine v_bipush ⟨by decide, by decide⟩ (by decide) dX12_count_154 ?_
    refine v_isubN g29 dX12_count_156 ?_
    refine v_icmp_ne (tgt := 164) dX12_count_157 (by decide) (fun c30 => ?_) (fun c30 => ?_)
    · replace h := b_wp_f c30 h
      refine v_iconst ⟨by decide, by decide⟩ dX12_count_164 ?_
      refine v_sub (ls2 := [(0, bR _), (1, bI _), (3, bI _)]) [0, 1, 3] rfl ?_
      exact t_X12_count_b165 h
    · replace h := b_wp_t c30 h
      refine v_iconst ⟨by decide, by decide⟩ dX12_count_160 ?_
      refine v_goto (tgt := 165) dX12_count_161 (by decide) ?_
      refine v_sub (ls2 := [(0, bR _), (1, bI _), (3, bI _)]) [0, 1, 3] rfl ?_
      exact t_X12_count_b165 h
theorem l_X12_count_139 {l : Launch} {E : bE} {Q : Int → Prop} {v1 : Int} {M : bM} {s : Int × Int} (h : b_wp (b_loop (fun t => F_X12_count_s139 v1 t.1 t.2 M) s) (X_X12_count_139 l E Q v1 M)) : A_X12_count_139 l E Q v1 M s := b_loop_wp (fun t h => t_X12_count_s139 h) s h
noncomputable def F_X12_count_b173 (v2 : Int) (M : bM) : Option (Int) :=
  some v2
theorem t_X12_count_b173 {l : Launch} {E : bE} {Q : Int → Prop} {v2 : Int} {M : bM} (h : b_wp (F_X12_count_b173 v2 M) (Q)) : V l E xX12_count (0, 0) 173 [(2, bI v2)] [] M (b_pIp M Q) := by
  unfold F_X12_count_b173 at h
  refine v_iload_n (f := 2) 0 rfl dX12_count_173 ?_
  refine v_ireturn rfl dX12_count_174 ⟨by decide, by decide⟩ ?_
  exact ⟨_, rfl, rfl, h⟩
noncomputable def F_X12_count (v1 : Int) (M : bM) : Option (Int) :=
  if v1 = 0 then (some (M 11 11)) else (if v1 = 1 then (some (M 11 12)) else (if v1 = 2 then (some (M 11 13)) else (if v1 = 3 then (some (M 11 20)) else (if v1 = 4 then (some (M 11 35)) else (if v1 = 5 then (some (M 11 52)) else (if v1 = 6 then (some (M 11 53)) else (if v1 = 7 then (some (M 11 99)) else (if v1 = 8 then (some (M 11 106)) else (if v1 = 9 then (some (M 11 107)) else (if v1 = 10 then (some (M 11 118)) else (if v1 = 11 then (some (M 11 1)) else (b_bind (F_X12_in v1 20 23 M) (fun x25 => if x25 = 0 then (some (-1)) else (b_bind (b_loop (fun t => F_X12_count_s139 v1 t.1 t.2 M) (0, 0)) (fun t => F_X12_count_b173 t M)))))))))))))))
theorem t_X12_count {l : Launch} {E : bE} {Q : Int → Prop} {v1 : Int} {M : bM} (h : b_wp (F_X12_count v1 M) (Q)) : V l E xX12_count (0, 0) 0 [(0, bR 11), (1, bI v1)] [] M (b_pIp M Q) := by
  unfold F_X12_count at h
  refine v_iconst ⟨by decide, by decide⟩ dX12_count_0 ?_
  refine v_istore_n (g := 2) (i := 2) (ls' := [(2, bI _), (0, bR _), (1, bI _)]) rfl (by decide) dX12_count_1 rfl ?_
  refine v_iload_n (f := 1) 2 rfl dX12_count_2 ?_
  refine v_case (v := 0) (fun c1 => ?_) (fun c2 => ?_)
  · refine v_tsIn (tgt := 64) (0) c1 (by decide) (by decide) rfl dX12_count_3 (by decide) ?_
    replace h := b_wp_t c1 h
    refine v_aload_n (f := 0) 1 rfl dX12_count_64 ?_
    refine v_getI (kf := 11) (kz := 11) rfl kd_11 rfl ⟨by decide, by decide⟩ rfl wf_12_344 dX12_count_65 ?_
    refine v_ireturn rfl dX12_count_68 ⟨by decide, by decide⟩ ?_
    exact ⟨_, rfl, rfl, h⟩
  replace h := b_wp_f c2 h
  refine v_case (v := 1) (fun c3 => ?_) (fun c4 => ?_)
  · refine v_tsIn (tgt := 69) (1) c3 (by decide) (by decide) rfl dX12_count_3 (by decide) ?_
    replace h := b_wp_t c3 h
    refine v_aload_n (f := 0) 1 rfl dX12_count_69 ?_
    refine v_getI (kf := 12) (kz := 12) rfl kd_11 rfl ⟨by decide, by decide⟩ rfl wf_12_350 dX12_count_70 ?_
    refine v_ireturn rfl dX12_count_73 ⟨by decide, by decide⟩ ?_
    exact ⟨_, rfl, rfl, h⟩
  replace h := b_wp_f c4 h
  refine v_case (v := 2) (fun c5 => ?_) (fun c6 => ?_)
  · refine v_tsIn (tgt := 74) (2) c5 (by decide) (by decide) rfl dX12_count_3 (by decide) ?_
    replace h := b_wp_t c5 h
    refine v_aload_n (f := 0) 1 rfl dX12_count_74 ?_
    refine v_getI (kf := 13) (kz := 13) rfl kd_11 rfl ⟨by decide, by decide⟩ rfl wf_12_353 dX12_count_75 ?_
    refine v_ireturn rfl dX12_count_78 ⟨by decide, by decide⟩ ?_
    exact ⟨_, rfl, rfl, h⟩
  replace h := b_wp_f c6 h
  refine v_case (v := 3) (fun c7 => ?_) (fun c8 => ?_)
  · refine v_tsIn (tgt := 79) (3) c7 (by decide) (by decide) rfl dX12_count_3 (by decide) ?_
    replace h := b_wp_t c7 h
    refine v_aload_n (f := 0) 1 rfl dX12_count_79 ?_
    refine v_getI (kf := 20) (kz := 20) rfl kd_11 rfl ⟨by decide, by decide⟩ rfl wf_12_374 dX12_count_80 ?_
    refine v_ireturn rfl dX12_count_83 ⟨by decide, by decide⟩ ?_
    exact ⟨_, rfl, rfl, h⟩
  replace h := b_wp_f c8 h
  refine v_case (v := 4) (fun c9 => ?_) (fun c10 => ?_)
  · refine v_tsIn (tgt := 84) (4) c9 (by decide) (by decide) rfl dX12_count_3 (by decide) ?_
    replace h := b_wp_t c9 h
    refine v_aload_n (f := 0) 1 rfl dX12_count_84 ?_
    refine v_getI (kf := 35) (kz := 35) rfl kd_11 rfl ⟨by decide, by decide⟩ rfl wf_12_487 dX12_count_85 ?_
    refine v_ireturn rfl dX12_count_88 ⟨by decide, by decide⟩ ?_
    exact ⟨_, rfl, rfl, h⟩
  replace h := b_wp_f c10 h
  refine v_case (v := 5) (fun c11 => ?_) (fun c12 => ?_)
  · refine v_tsIn (tgt := 89) (5) c11 (by decide) (by decide) rfl dX12_count_3 (by decide) ?_
    replace h := b_wp_t c11 h
    refine v_aload_n (f := 0) 1 rfl dX12_count_89 ?_
    refine v_getI (kf := 52) (kz := 52) rfl kd_11 rfl ⟨by decide, by decide⟩ rfl wf_12_496 dX12_count_90 ?_
    refine v_ireturn rfl dX12_count_93 ⟨by decide, by decide⟩ ?_
    exact ⟨_, rfl, rfl, h⟩
  replace h := b_wp_f c12 h
  refine v_case (v := 6) (fun c13 => ?_) (fun c14 => ?_)
  · refine v_tsIn (tgt := 94) (6) c13 (by decide) (by decide) rfl dX12_count_3 (by decide) ?_
    replace h := b_wp_t c13 h
    refine v_aload_n (f := 0) 1 rfl dX12_count_94 ?_
    refine v_getI (kf := 53) (kz := 53) rfl kd_11 rfl ⟨by decide, by decide⟩ rfl wf_12_502 dX12_count_95 ?_
    refine v_ireturn rfl dX12_count_98 ⟨by decide, by decide⟩ ?_
    exact ⟨_, rfl, rfl, h⟩
  replace h := b_wp_f c14 h
  refine v_case (v := 7) (fun c15 => ?_) (fun c16 => ?_)
  · refine v_tsIn (tgt := 99) (7) c15 (by decide) (by decide) rfl dX12_count_3 (by decide) ?_
    replace h := b_wp_t c15 h
    refine v_aload_n (f := 0) 1 rfl dX12_count_99 ?_
    refine v_getI (kf := 99) (kz := 99) rfl kd_11 rfl ⟨by decide, by decide⟩ rfl wf_12_623 dX12_count_100 ?_
    refine v_ireturn rfl dX12_count_103 ⟨by decide, by decide⟩ ?_
    exact ⟨_, rfl, rfl, h⟩
  replace h := b_wp_f c16 h
  refine v_case (v := 8) (fun c17 => ?_) (fun c18 => ?_)
  · refine v_tsIn (tgt := 104) (8) c17 (by decide) (by decide) rfl dX12_count_3 (by decide) ?_
    replace h := b_wp_t c17 h
    refine v_aload_n (f := 0) 1 rfl dX12_count_104 ?_
    refine v_getI (kf := 106) (kz := 106) rfl kd_11 rfl ⟨by decide, by decide⟩ rfl wf_12_635 dX12_count_105 ?_
    refine v_ireturn rfl dX12_count_108 ⟨by decide, by decide⟩ ?_
    exact ⟨_, rfl, rfl, h⟩
  replace h := b_wp_f c18 h
  refine v_case (v := 9) (fun c19 => ?_) (fun c20 => ?_)
  · refine v_tsIn (tgt := 109) (9) c19 (by decide) (by decide) rfl dX12_count_3 (by decide) ?_
    replace h := b_wp_t c19 h
    refine v_aload_n (f := 0) 1 rfl dX12_count_109 ?_
    refine v_getI (kf := 107) (kz := 107) rfl kd_11 rfl ⟨by decide, by decide⟩ rfl wf_12_647 dX12_count_110 ?_
    refine v_ireturn rfl dX12_count_113 ⟨by decide, by decide⟩ ?_
    exact ⟨_, rfl, rfl, h⟩
  replace h := b_wp_f c20 h
  refine v_case (v := 10) (fun c21 => ?_) (fun c22 => ?_)
  · refine v_tsIn (tgt := 114) (10) c21 (by decide) (by decide) rfl dX12_count_3 (by decide) ?_
    replace h := b_wp_t c21 h
    refine v_aload_n (f := 0) 1 rfl dX12_count_114 ?_
    refine v_getI (kf := 118) (kz := 118) rfl kd_11 rfl ⟨by decide, by decide⟩ rfl wf_12_651 dX12_count_115 ?_
    refine v_ireturn rfl dX12_count_118 ⟨by decide, by decide⟩ ?_
    exact ⟨_, rfl, rfl, h⟩
  replace h := b_wp_f c22 h
  refine v_case (v := 11) (fun c23 => ?_) (fun c24 => ?_)
  · refine v_tsIn (tgt := 119) (11) c23 (by decide) (by decide) rfl dX12_count_3 (by decide) ?_
    replace h := b_wp_t c23 h
    refine v_aload_n (f := 0) 1 rfl dX12_count_119 ?_
    refine v_getI (kf := 1) (kz := 1) rfl kd_11 rfl ⟨by decide, by decide⟩ rfl wf_12_283 dX12_count_120 ?_
    refine v_ireturn rfl dX12_count_123 ⟨by decide, by decide⟩ ?_
    exact ⟨_, rfl, rfl, h⟩
  replace h := b_wp_f c24 h
  refine v_tsOut (tgt := 124) (by omega) dX12_count_3 (by decide) ?_
  refine v_iload_n (f := 1) 2 rfl dX12_count_124 ?_
  refine v_bipush ⟨by decide, by decide⟩ (by decide) dX12_count_125 ?_
  refine v_bipush ⟨by decide, by decide⟩ (by decide) dX12_count_127 ?_
  refine v_cSIp (nA := 3) (As := [bI _, bI _, bI _]) (ix := 279) (cf_X12_in (b_wp_b h)) rfl wc_X12_in wm_12_279 wi_X12_in wn_12 ⟨by decide, by decide, by decide⟩ rfl ⟨by decide, by decide⟩ ⟨by decide, by decide⟩ (Nat.le_of_ble_eq_true rfl) dX12_count_129 (fun x25 h => ?_)
  refine v_if_ne (tgt := 137) dX12_count_132 (by decide) (fun c26 => ?_) (fun c26 => ?_)
  · replace h := b_wp_f c26 h
    refine v_iconst ⟨by decide, by decide⟩ dX12_count_137 ?_
    refine v_istore_n (g := 3) (i := 3) (ls' := [(3, bI _), (2, bI _), (0, bR _), (1, bI _)]) rfl (by decide) dX12_count_138 rfl ?_
    refine v_sub (ls2 := [(0, bR _), (1, bI _), (2, bI _), (3, bI _)]) [2, 3, 1, 0] rfl ?_
    refine l_X12_count_139 (b_wp_m (fun t h => ?_) (b_wp_b h))
    show V l E xX12_count (0, 0) 173 [(2, bI _)] [] _ (b_pIp M Q)
    exact t_X12_count_b173 h
  · replace h := b_wp_t c26 h
    refine v_iconst ⟨by decide, by decide⟩ dX12_count_135 ?_
    refine v_ireturn rfl dX12_count_136 ⟨by decide, by decide⟩ ?_
    exact ⟨_, rfl, rfl, h⟩
theorem cf_X12_count {l : Launch} {E : bE} {M : bM} {v1 : Int} {Q : Int → Prop} (h : b_wp (F_X12_count v1 M) Q) : b_C l E xX12_count yX12_count [bR 11, bI v1] M (b_pIp M Q) := b_met (by decide) ⟨rfl, rfl⟩ (Nat.le_of_ble_eq_true rfl) (fun _ _ => t_X12_count h)
