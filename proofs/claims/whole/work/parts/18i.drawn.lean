abbrev xX12_isThere : bX := ("BurntHallModel", prog_14_method_35_code, 3, (Option.some Jvm.ClassFile.FieldType.boolean), b_rm 1 0 0, 0, "isThere")
abbrev yX12_isThere : MethodName := ⟨"BurntHallModel", "isThere", "(II)Z"⟩
theorem dX12_isThere_0 : decode prog_14_method_35_code 0 = .ok (.aload_n 0, 1) := by decide +kernel
theorem dX12_isThere_1 : decode prog_14_method_35_code 1 = .ok (.getfield 39, 3) := by decide +kernel
theorem dX12_isThere_4 : decode prog_14_method_35_code 4 = .ok (.iload_n 1, 1) := by decide +kernel
theorem dX12_isThere_5 : decode prog_14_method_35_code 5 = .ok (.iaload, 1) := by decide +kernel
theorem dX12_isThere_6 : decode prog_14_method_35_code 6 = .ok (.iload_n 2, 1) := by decide +kernel
theorem dX12_isThere_7 : decode prog_14_method_35_code 7 = .ok (.if_icmp .gt 27, 3) := by decide +kernel
theorem dX12_isThere_10 : decode prog_14_method_35_code 10 = .ok (.aload_n 0, 1) := by decide +kernel
theorem dX12_isThere_11 : decode prog_14_method_35_code 11 = .ok (.getfield 42, 3) := by decide +kernel
theorem dX12_isThere_14 : decode prog_14_method_35_code 14 = .ok (.iload_n 1, 1) := by decide +kernel
theorem dX12_isThere_15 : decode prog_14_method_35_code 15 = .ok (.iaload, 1) := by decide +kernel
theorem dX12_isThere_16 : decode prog_14_method_35_code 16 = .ok (.iconst (-1), 1) := by decide +kernel
theorem dX12_isThere_17 : decode prog_14_method_35_code 17 = .ok (.if_icmp .eq 13, 3) := by decide +kernel
theorem dX12_isThere_20 : decode prog_14_method_35_code 20 = .ok (.aload_n 0, 1) := by decide +kernel
theorem dX12_isThere_21 : decode prog_14_method_35_code 21 = .ok (.getfield 42, 3) := by decide +kernel
theorem dX12_isThere_24 : decode prog_14_method_35_code 24 = .ok (.iload_n 1, 1) := by decide +kernel
theorem dX12_isThere_25 : decode prog_14_method_35_code 25 = .ok (.iaload, 1) := by decide +kernel
theorem dX12_isThere_26 : decode prog_14_method_35_code 26 = .ok (.iload_n 2, 1) := by decide +kernel
theorem dX12_isThere_27 : decode prog_14_method_35_code 27 = .ok (.if_icmp .le 7, 3) := by decide +kernel
theorem dX12_isThere_30 : decode prog_14_method_35_code 30 = .ok (.iconst 1, 1) := by decide +kernel
theorem dX12_isThere_31 : decode prog_14_method_35_code 31 = .ok (.goto 4, 3) := by decide +kernel
theorem dX12_isThere_34 : decode prog_14_method_35_code 34 = .ok (.iconst 0, 1) := by decide +kernel
theorem dX12_isThere_35 : decode prog_14_method_35_code 35 = .ok (.ireturn, 1) := by decide +kernel
noncomputable def F_X12_isThere (v1 : Int) (v2 : Int) (M : bM) : Option (Int) :=
  b_g (0 ≤ v1 ∧ v1 < 60) (if v2 < (M 170 v1) then (some 0) else (b_g (0 ≤ v1 ∧ v1 < 60) (if (M 171 v1) = (-1) then (some 1) else (b_g (0 ≤ v1 ∧ v1 < 60) (if (M 171 v1) ≤ v2 then (some 0) else (some 1))))))
theorem t_X12_isThere {l : Launch} {E : bE} {Q : Int → Prop} {v1 : Int} {v2 : Int} {M : bM} (h : b_wp (F_X12_isThere v1 v2 M) (Q)) : V l E xX12_isThere (0, 0) 0 [(0, bR 11), (1, bI v1), (2, bI v2)] [] M (b_pIp M Q) := by
  unfold F_X12_isThere at h
  obtain ⟨g1, h⟩ := b_wp_g h
  refine v_aload_n (f := 0) 0 rfl dX12_isThere_0 ?_
  refine v_getR (kf := 22) (kz := 22) rfl kd_11 rfl ⟨by decide, by decide⟩ rfl wf_12_39 dX12_isThere_1 ?_
  refine v_iload_n (f := 1) 1 rfl dX12_isThere_4 ?_
  refine v_iaload kd_170 g1 (by decide) dX12_isThere_5 ?_
  refine v_iload_n (f := 2) 2 rfl dX12_isThere_6 ?_
  refine v_icmp_gt (tgt := 34) dX12_isThere_7 (by decide) (fun c2 => ?_) (fun c2 => ?_)
  · replace h := b_wp_t c2 h
    refine v_iconst ⟨by decide, by decide⟩ dX12_isThere_34 ?_
    refine v_zreturn rfl (Or.inl rfl) dX12_isThere_35 ⟨by decide, by decide⟩ ?_
    exact ⟨_, rfl, rfl, h⟩
  · replace h := b_wp_f c2 h
    obtain ⟨g3, h⟩ := b_wp_g h
    refine v_aload_n (f := 0) 0 rfl dX12_isThere_10 ?_
    refine v_getR (kf := 23) (kz := 23) rfl kd_11 rfl ⟨by decide, by decide⟩ rfl wf_12_42 dX12_isThere_11 ?_
    refine v_iload_n (f := 1) 1 rfl dX12_isThere_14 ?_
    refine v_iaload kd_171 g3 (by decide) dX12_isThere_15 ?_
    refine v_iconst ⟨by decide, by decide⟩ dX12_isThere_16 ?_
    refine v_icmp_eq (tgt := 30) dX12_isThere_17 (by decide) (fun c4 => ?_) (fun c4 => ?_)
    · replace h := b_wp_t c4 h
      refine v_iconst ⟨by decide, by decide⟩ dX12_isThere_30 ?_
      refine v_goto (tgt := 35) dX12_isThere_31 (by decide) ?_
      refine v_zreturn rfl (Or.inr rfl) dX12_isThere_35 ⟨by decide, by decide⟩ ?_
      exact ⟨_, rfl, rfl, h⟩
    · replace h := b_wp_f c4 h
      obtain ⟨g5, h⟩ := b_wp_g h
      refine v_aload_n (f := 0) 0 rfl dX12_isThere_20 ?_
      refine v_getR (kf := 23) (kz := 23) rfl kd_11 rfl ⟨by decide, by decide⟩ rfl wf_12_42 dX12_isThere_21 ?_
      refine v_iload_n (f := 1) 1 rfl dX12_isThere_24 ?_
      refine v_iaload kd_171 g5 (by decide) dX12_isThere_25 ?_
      refine v_iload_n (f := 2) 2 rfl dX12_isThere_26 ?_
      refine v_icmp_le (tgt := 34) dX12_isThere_27 (by decide) (fun c6 => ?_) (fun c6 => ?_)
      · replace h := b_wp_t c6 h
        refine v_iconst ⟨by decide, by decide⟩ dX12_isThere_34 ?_
        refine v_zreturn rfl (Or.inl rfl) dX12_isThere_35 ⟨by decide, by decide⟩ ?_
        exact ⟨_, rfl, rfl, h⟩
      · replace h := b_wp_f c6 h
        refine v_iconst ⟨by decide, by decide⟩ dX12_isThere_30 ?_
        refine v_goto (tgt := 35) dX12_isThere_31 (by decide) ?_
        refine v_zreturn rfl (Or.inr rfl) dX12_isThere_35 ⟨by decide, by decide⟩ ?_
        exact ⟨_, rfl, rfl, h⟩
theorem cf_X12_isThere {l : Launch} {E : bE} {M : bM} {v1 : Int} {v2 : Int} {Q : Int → Prop} (h : b_wp (F_X12_isThere v1 v2 M) Q) : b_C l E xX12_isThere yX12_isThere [bR 11, bI v1, bI v2] M (b_pIp M Q) := b_met (by decide) ⟨rfl, rfl⟩ (Nat.le_of_ble_eq_true rfl) (fun _ _ => t_X12_isThere h)
abbrev xX12_about : bX := ("BurntHallModel", prog_14_method_36_code, 3, (Option.some Jvm.ClassFile.FieldType.int), b_rm 3 0 0, 0, "about")
abbrev yX12_about : MethodName := ⟨"BurntHallModel", "about", "(II)I"⟩
theorem dX12_about_0 : decode prog_14_method_36_code 0 = .ok (.aload_n 0, 1) := by decide +kernel
theorem dX12_about_1 : decode prog_14_method_36_code 1 = .ok (.iload_n 1, 1) := by decide +kernel
theorem dX12_about_2 : decode prog_14_method_36_code 2 = .ok (.invokevirtual 385, 3) := by decide +kernel
theorem dX12_about_5 : decode prog_14_method_36_code 5 = .ok (.ifCond .ne 6, 3) := by decide +kernel
theorem dX12_about_8 : decode prog_14_method_36_code 8 = .ok (.bipush (-9), 2) := by decide +kernel
theorem dX12_about_10 : decode prog_14_method_36_code 10 = .ok (.ireturn, 1) := by decide +kernel
theorem dX12_about_11 : decode prog_14_method_36_code 11 = .ok (.iload_n 2, 1) := by decide +kernel
theorem dX12_about_12 : decode prog_14_method_36_code 12 = .ok (.tableswitch 104 0 7 #[48, 55, 62, 69, 76, 83, 90, 97], 48) := by decide +kernel
theorem dX12_about_60 : decode prog_14_method_36_code 60 = .ok (.aload_n 0, 1) := by decide +kernel
theorem dX12_about_61 : decode prog_14_method_36_code 61 = .ok (.getfield 36, 3) := by decide +kernel
theorem dX12_about_64 : decode prog_14_method_36_code 64 = .ok (.iload_n 1, 1) := by decide +kernel
theorem dX12_about_65 : decode prog_14_method_36_code 65 = .ok (.iaload, 1) := by decide +kernel
theorem dX12_about_66 : decode prog_14_method_36_code 66 = .ok (.ireturn, 1) := by decide +kernel
theorem dX12_about_67 : decode prog_14_method_36_code 67 = .ok (.aload_n 0, 1) := by decide +kernel
theorem dX12_about_68 : decode prog_14_method_36_code 68 = .ok (.getfield 39, 3) := by decide +kernel
theorem dX12_about_71 : decode prog_14_method_36_code 71 = .ok (.iload_n 1, 1) := by decide +kernel
theorem dX12_about_72 : decode prog_14_method_36_code 72 = .ok (.iaload, 1) := by decide +kernel
theorem dX12_about_73 : decode prog_14_method_36_code 73 = .ok (.ireturn, 1) := by decide +kernel
theorem dX12_about_74 : decode prog_14_method_36_code 74 = .ok (.aload_n 0, 1) := by decide +kernel
theorem dX12_about_75 : decode prog_14_method_36_code 75 = .ok (.getfield 42, 3) := by decide +kernel
theorem dX12_about_78 : decode prog_14_method_36_code 78 = .ok (.iload_n 1, 1) := by decide +kernel
theorem dX12_about_79 : decode prog_14_method_36_code 79 = .ok (.iaload, 1) := by decide +kernel
theorem dX12_about_80 : decode prog_14_method_36_code 80 = .ok (.ireturn, 1) := by decide +kernel
theorem dX12_about_81 : decode prog_14_method_36_code 81 = .ok (.aload_n 0, 1) := by decide +kernel
theorem dX12_about_82 : decode prog_14_method_36_code 82 = .ok (.getfield 45, 3) := by decide +kernel
theorem dX12_about_85 : decode prog_14_method_36_code 85 = .ok (.iload_n 1, 1) := by decide +kernel
theorem dX12_about_86 : decode prog_14_method_36_code 86 = .ok (.iaload, 1) := by decide +kernel
theorem dX12_about_87 : decode prog_14_method_36_code 87 = .ok (.ireturn, 1) := by decide +kernel
theorem dX12_about_88 : decode prog_14_method_36_code 88 = .ok (.aload_n 0, 1) := by decide +kernel
theorem dX12_about_89 : decode prog_14_method_36_code 89 = .ok (.getfield 48, 3) := by decide +kernel
theorem dX12_about_92 : decode prog_14_method_36_code 92 = .ok (.iload_n 1, 1) := by decide +kernel
theorem dX12_about_93 : decode prog_14_method_36_code 93 = .ok (.iaload, 1) := by decide +kernel
theorem dX12_about_94 : decode prog_14_method_36_code 94 = .ok (.ireturn, 1) := by decide +kernel
theorem dX12_about_95 : decode prog_14_method_36_code 95 = .ok (.aload_n 0, 1) := by decide +kernel
theorem dX12_about_96 : decode prog_14_method_36_code 96 = .ok (.getfield 55, 3) := by decide +kernel
theorem dX12_about_99 : decode prog_14_method_36_code 99 = .ok (.iload_n 1, 1) := by decide +kernel
theorem dX12_about_100 : decode prog_14_method_36_code 100 = .ok (.iaload, 1) := by decide +kernel
theorem dX12_about_101 : decode prog_14_method_36_code 101 = .ok (.ireturn, 1) := by decide +kernel
theorem dX12_about_102 : decode prog_14_method_36_code 102 = .ok (.aload_n 0, 1) := by decide +kernel
theorem dX12_about_103 : decode prog_14_method_36_code 103 = .ok (.getfield 58, 3) := by decide +kernel
theorem dX12_about_106 : decode prog_14_method_36_code 106 = .ok (.iload_n 1, 1) := by decide +kernel
theorem dX12_about_107 : decode prog_14_method_36_code 107 = .ok (.iaload, 1) := by decide +kernel
theorem dX12_about_108 : decode prog_14_method_36_code 108 = .ok (.ireturn, 1) := by decide +kernel
theorem dX12_about_109 : decode prog_14_method_36_code 109 = .ok (.aload_n 0, 1) := by decide +kernel
theorem dX12_about_110 : decode prog_14_method_36_code 110 = .ok (.getfield 61, 3) := by decide +kernel
theorem dX12_about_113 : decode prog_14_method_36_code 113 = .ok (.iload_n 1, 1) := by decide +kernel
theorem dX12_about_114 : decode prog_14_method_36_code 114 = .ok (.iaload, 1) := by decide +kernel
theorem dX12_about_115 : decode prog_14_method_36_code 115 = .ok (.ireturn, 1) := by decide +kernel
theorem dX12_about_116 : decode prog_14_method_36_code 116 = .ok (.iload_n 2, 1) := by decide +kernel
theorem dX12_about_117 : decode prog_14_method_36_code 117 = .ok (.bipush 10, 2) := by decide +kernel
theorem dX12_about_119 : decode prog_14_method_36_code 119 = .ok (.bipush 9, 2) := by decide +kernel
theorem dX12_about_121 : decode prog_14_method_36_code 121 = .ok (.aload_n 0, 1) := by decide +kernel
theorem dX12_about_122 : decode prog_14_method_36_code 122 = .ok (.getfield 55, 3) := by decide +kernel
theorem dX12_about_125 : decode prog_14_method_36_code 125 = .ok (.iload_n 1, 1) := by decide +kernel
theorem dX12_about_126 : decode prog_14_method_36_code 126 = .ok (.iaload, 1) := by decide +kernel
theorem dX12_about_127 : decode prog_14_method_36_code 127 = .ok (.iadd, 1) := by decide +kernel
theorem dX12_about_128 : decode prog_14_method_36_code 128 = .ok (.invokestatic 279, 3) := by decide +kernel
theorem dX12_about_131 : decode prog_14_method_36_code 131 = .ok (.ifCond .eq 39, 3) := by decide +kernel
theorem dX12_about_134 : decode prog_14_method_36_code 134 = .ok (.ldc_w 388, 3) := by decide +kernel
theorem dX12_about_137 : decode prog_14_method_36_code 137 = .ok (.aload_n 0, 1) := by decide +kernel
theorem dX12_about_138 : decode prog_14_method_36_code 138 = .ok (.getfield 64, 3) := by decide +kernel
theorem dX12_about_141 : decode prog_14_method_36_code 141 = .ok (.bipush 12, 2) := by decide +kernel
theorem dX12_about_143 : decode prog_14_method_36_code 143 = .ok (.iload_n 1, 1) := by decide +kernel
theorem dX12_about_144 : decode prog_14_method_36_code 144 = .ok (.imul, 1) := by decide +kernel
theorem dX12_about_145 : decode prog_14_method_36_code 145 = .ok (.iload_n 2, 1) := by decide +kernel
theorem dX12_about_146 : decode prog_14_method_36_code 146 = .ok (.iadd, 1) := by decide +kernel
theorem dX12_about_147 : decode prog_14_method_36_code 147 = .ok (.bipush 10, 2) := by decide +kernel
theorem dX12_about_149 : decode prog_14_method_36_code 149 = .ok (.isub, 1) := by decide +kernel
theorem dX12_about_150 : decode prog_14_method_36_code 150 = .ok (.iaload, 1) := by decide +kernel
theorem dX12_about_151 : decode prog_14_method_36_code 151 = .ok (.imul, 1) := by decide +kernel
theorem dX12_about_152 : decode prog_14_method_36_code 152 = .ok (.aload_n 0, 1) := by decide +kernel
theorem dX12_about_153 : decode prog_14_method_36_code 153 = .ok (.getfield 67, 3) := by decide +kernel
theorem dX12_about_156 : decode prog_14_method_36_code 156 = .ok (.bipush 12, 2) := by decide +kernel
theorem dX12_about_158 : decode prog_14_method_36_code 158 = .ok (.iload_n 1, 1) := by decide +kernel
theorem dX12_about_159 : decode prog_14_method_36_code 159 = .ok (.imul, 1) := by decide +kernel
theorem dX12_about_160 : decode prog_14_method_36_code 160 = .ok (.iload_n 2, 1) := by decide +kernel
theorem dX12_about_161 : decode prog_14_method_36_code 161 = .ok (.iadd, 1) := by decide +kernel
theorem dX12_about_162 : decode prog_14_method_36_code 162 = .ok (.bipush 10, 2) := by decide +kernel
theorem dX12_about_164 : decode prog_14_method_36_code 164 = .ok (.isub, 1) := by decide +kernel
theorem dX12_about_165 : decode prog_14_method_36_code 165 = .ok (.iaload, 1) := by decide +kernel
theorem dX12_about_166 : decode prog_14_method_36_code 166 = .ok (.iadd, 1) := by decide +kernel
theorem dX12_about_167 : decode prog_14_method_36_code 167 = .ok (.goto 5, 3) := by decide +kernel
theorem dX12_about_170 : decode prog_14_method_36_code 170 = .ok (.bipush (-9), 2) := by decide +kernel
theorem dX12_about_172 : decode prog_14_method_36_code 172 = .ok (.ireturn, 1) := by decide +kernel
noncomputable def F_X12_about (v1 : Int) (v2 : Int) (M : bM) : Option (Int) :=
  b_bind (F_X12_isLot v1 M) (fun x1 => if x1 = 0 then (some (-9)) else (if v2 = 0 then (b_g (0 ≤ v1 ∧ v1 < 60) (some (M 169 v1))) else (if v2 = 1 then (b_g (0 ≤ v1 ∧ v1 < 60) (some (M 170 v1))) else (if v2 = 2 then (b_g (0 ≤ v1 ∧ v1 < 60) (some (M 171 v1))) else (if v2 = 3 then (b_g (0 ≤ v1 ∧ v1 < 60) (some (M 172 v1))) else (if v2 = 4 then (b_g (0 ≤ v1 ∧ v1 < 60) (some (M 173 v1))) else (if v2 = 5 then (b_g (0 ≤ v1 ∧ v1 < 60) (some (M 175 v1))) else (if v2 = 6 then (b_g (0 ≤ v1 ∧ v1 < 60) (some (M 176 v1))) else (if v2 = 7 then (b_g (0 ≤ v1 ∧ v1 < 60) (some (M 177 v1))) else (b_g ((0 ≤ v1 ∧ v1 < 60) ∧ (b_i32 (9 + (M 175 v1)))) (b_bind (F_X12_in v2 10 (9 + (M 175 v1)) M) (fun x29 => if x29 = 0 then (some (-9)) else (b_g ((b_i32 (12 * v1)) ∧ (b_i32 ((12 * v1) + v2)) ∧ (b_i32 (((12 * v1) + v2) - 10)) ∧ (0 ≤ (((12 * v1) + v2) - 10) ∧ (((12 * v1) + v2) - 10) < 732) ∧ (b_i32 (100000 * (M 178 (((12 * v1) + v2) - 10)))) ∧ (b_i32 ((100000 * (M 178 (((12 * v1) + v2) - 10))) + (M 179 (((12 * v1) + v2) - 10))))) (some ((100000 * (M 178 (((12 * v1) + v2) - 10))) + (M 179 (((12 * v1) + v2) - 10)))))))))))))))))
theorem t_X12_about {l : Launch} {E : bE} {Q : Int → Prop} {v1 : Int} {v2 : Int} {M : bM} (h : b_wp (F_X12_about v1 v2 M) (Q)) : V l E xX12_about (0, 0) 0 [(0, bR 11), (1, bI v1), (2, bI v2)] [] M (b_pIp M Q) := by
  unfold F_X12_about at h
  refine v_aload_n (f := 0) 0 rfl dX12_about_0 ?_
  refine v_iload_n (f := 1) 1 rfl dX12_about_1 ?_
  refine v_cVIp (nA := 1) (As := [bI _]) (ix := 385) (cf_X12_isLot (b_wp_b h)) rfl kd_11 rfl rfl wc_X12_isLot wm_12_385 wi_X12_isLot ws_X12_isLot wn_12 ⟨by decide, by decide, by decide⟩ rfl ⟨by decide, by decide⟩ ⟨by decide, by decide⟩ (Nat.le_of_ble_eq_true rfl) dX12_about_2 (fun x1 h => ?_)
  refine v_if_ne (tgt := 11) dX12_about_5 (by decide) (fun c2 => ?_) (fun c2 => ?_)
  · replace h := b_wp_f c2 h
    refine v_iload_n (f := 2) 2 rfl dX12_about_11 ?_
    refine v_case (v := 0) (fun c3 => ?_) (fun c4 => ?_)
    · refine v_tsIn (tgt := 60) (0) c3 (by decide) (by decide) rfl dX12_about_12 (by decide) ?_
      replace h := b_wp_t c3 h
      obtain ⟨g5, h⟩ := b_wp_g h
      refine v_aload_n (f := 0) 0 rfl dX12_about_60 ?_
      refine v_getR (kf := 21) (kz := 21) rfl kd_11 rfl ⟨by decide, by decide⟩ rfl wf_12_36 dX12_about_61 ?_
      refine v_iload_n (f := 1) 1 rfl dX12_about_64 ?_
      refine v_iaload kd_169 g5 (by decide) dX12_about_65 ?_
      refine v_ireturn rfl dX12_about_66 ⟨by decide, by decide⟩ ?_
      exact ⟨_, rfl, rfl, h⟩
    replace h := b_wp_f c4 h
    refine v_case (v := 1) (fun c6 => ?_) (fun c7 => ?_)
    · refine v_tsIn (tgt := 67) (1) c6 (by decide) (by decide) rfl dX12_about_12 (by decide) ?_
      replace h := b_wp_t c6 h
      obtain ⟨g8, h⟩ := b_wp_g h
      refine v_aload_n (f := 0) 0 rfl dX12_about_67 ?_
      refine v_getR (kf := 22) (kz := 22) rfl kd_11 rfl ⟨by decide, by decide⟩ rfl wf_12_39 dX12_about_68 ?_
      refine v_iload_n (f := 1) 1 rfl dX12_about_71 ?_
      refine v_iaload kd_170 g8 (by decide) dX12_about_72 ?_
      refine v_ireturn rfl dX12_about_73 ⟨by decide, by decide⟩ ?_
      exact ⟨_, rfl, rfl, h⟩
    replace h := b_wp_f c7 h
    refine v_case (v := 2) (fun c9 => ?_) (fun c10 => ?_)
    · refine v_tsIn (tgt := 74) (2) c9 (by decide) (by decide) rfl dX12_about_12 (by decide) ?_
      replace h := b_wp_t c9 h
      obtain ⟨g11, h⟩ := b_wp_g h
      refine v_aload_n (f := 0) 0 rfl dX12_about_74 ?_
      refine v_getR (kf := 23) (kz := 23) rfl kd_11 rfl ⟨by decide, by decide⟩ rfl wf_12_42 dX12_about_75 ?_
      refine v_iload_n (f := 1) 1 rfl dX12_about_78 ?_
      refine v_iaload kd_171 g11 (by decide) dX12_about_79 ?_
      refine v_ireturn rfl dX12_about_80 ⟨by decide, by decide⟩ ?_
      exact ⟨_, rfl, rfl, h⟩
    replace h := b_wp_f c10 h
    refine v_case (v := 3) (fun c12 => ?_) (fun c13 => ?_)
    · refine v_tsIn (tgt := 81) (3) c12 (by decide) (by decide) rfl dX12_about_12 (by decide) ?_
      replace h := b_wp_t c12 h
      obtain ⟨g14, h⟩ := b_wp_g h
      refine v_aload_n (f := 0) 0 rfl dX12_about_81 ?_
      refine v_getR (kf := 24) (kz := 24) rfl kd_11 rfl ⟨by decide, by decide⟩ rfl wf_12_45 dX12_about_82 ?_
      refine v_iload_n (f := 1) 1 rfl dX12_about_85 ?_
      refine v_iaload kd_172 g14 (by decide) dX12_about_86 ?_
      refine v_ireturn rfl dX12_about_87 ⟨by decide, by decide⟩ ?_
      exact ⟨_, rfl, rfl, h⟩
    replace h := b_wp_f c13 h
    refine v_case (v := 4) (fun c15 => ?_) (fun c16 => ?_)
    · refine v_tsIn (tgt := 88) (4) c15 (by decide) (by decide) rfl dX12_about_12 (by decide) ?_
      replace h := b_wp_t c15 h
      obtain ⟨g17, h⟩ := b_wp_g h
      refine v_aload_n (f := 0) 0 rfl dX12_about_88 ?_
      refine v_getR (kf := 25) (kz := 25) rfl kd_11 rfl ⟨by decide, by decide⟩ rfl wf_12_48 dX12_about_89 ?_
      refine v_iload_n (f := 1) 1 rfl dX12_about_92 ?_
      refine v_iaload kd_173 g17 (by decide) dX12_about_93 ?_
      refine v_ireturn rfl dX12_about_94 ⟨by decide, by decide⟩ ?_
      exact ⟨_, rfl, rfl, h⟩
    replace h := b_wp_f c16 h
    refine v_case (v := 5) (fun c18 => ?_) (fun c19 => ?_)
    · refine v_tsIn (tgt := 95) (5) c18 (by decide) (by decide) rfl dX12_about_12 (by decide) ?_
      replace h := b_wp_t c18 h
      obtain ⟨g20, h⟩ := b_wp_g h
      refine v_aload_n (f := 0) 0 rfl dX12_about_95 ?_
      refine v_getR (kf := 27) (kz := 27) rfl kd_11 rfl ⟨by decide, by decide⟩ rfl wf_12_55 dX12_about_96 ?_
      refine v_iload_n (f := 1) 1 rfl dX12_about_99 ?_
      refine v_iaload kd_175 g20 (by decide) dX12_about_100 ?_
      refine v_ireturn rfl dX12_about_101 ⟨by decide, by decide⟩ ?_
      exact ⟨_, rfl, rfl, h⟩
    replace h := b_wp_f c19 h
    refine v_case (v := 6) (fun c21 => ?_) (fun c22 => ?_)
    · refine v_tsIn (tgt := 102) (6) c21 (by decide) (by decide) rfl dX12_about_12 (by decide) ?_
      replace h := b_wp_t c21 h
      obtain ⟨g23, h⟩ := b_wp_g h
      refine v_aload_n (f := 0) 0 rfl dX12_about_102 ?_
      refine v_getR (kf := 28) (kz := 28) rfl kd_11 rfl ⟨by decide, by decide⟩ rfl wf_12_58 dX12_about_103 ?_
      refine v_iload_n (f := 1) 1 rfl dX12_about_106 ?_
      refine v_iaload kd_176 g23 (by decide) dX12_about_107 ?_
      refine v_ireturn rfl dX12_about_108 ⟨by decide, by decide⟩ ?_
      exact ⟨_, rfl, rfl, h⟩
    replace h := b_wp_f c22 h
    refine v_case (v := 7) (fun c24 => ?_) (fun c25 => ?_)
    · refine v_tsIn (tgt := 109) (7) c24 (by decide) (by decide) rfl dX12_about_12 (by decide) ?_
      replace h := b_wp_t c24 h
      obtain ⟨g26, h⟩ := b_wp_g h
      refine v_aload_n (f := 0) 0 rfl dX12_about_109 ?_
      refine v_getR (kf := 29) (kz := 29) rfl kd_11 rfl ⟨by decide, by decide⟩ rfl wf_12_61 dX12_about_110 ?_
      refine v_iload_n (f := 1) 1 rfl dX12_about_113 ?_
      refine v_iaload kd_177 g26 (by decide) dX12_about_114 ?_
      refine v_ireturn rfl dX12_about_115 ⟨by decide, by decide⟩ ?_
      exact ⟨_, rfl, rfl, h⟩
    replace h := b_wp_f c25 h
    refine v_tsOut (tgt := 116) (by omega) dX12_about_12 (by decide) ?_
    obtain ⟨⟨g27, g28⟩, h⟩ := b_wp_g h
    refine v_iload_n (f := 2) 2 rfl dX12_about_116 ?_
    refine v_bipush ⟨by decide, by decide⟩ (by decide) dX12_about_117 ?_
    refine v_bipush ⟨by decide, by decide⟩ (by decide) dX12_about_119 ?_
    refine v_aload_n (f := 0) 0 rfl dX12_about_121 ?_
    refine v_getR (kf := 27) (kz := 27) rfl kd_11 rfl ⟨by decide, by decide⟩ rfl wf_12_55 dX12_about_122 ?_
    refine v_iload_n (f := 1) 1 rfl dX12_about_125 ?_
    refine v_iaload kd_175 g27 (by decide) dX12_about_126 ?_
    refine v_iaddN g28 dX12_about_127 ?_
    refine v_cSIp (nA := 3) (As := [bI _, bI _, bI _]) (ix := 279) (cf_X12_in (b_wp_b h)) rfl wc_X12_in wm_12_279 wi_X12_in wn_12 ⟨by decide, by decide, by decide⟩ rfl ⟨by decide, by decide⟩ ⟨by decide, by decide⟩ (Nat.le_of_ble_eq_true rfl) dX12_about_128 (fun x29 h => ?_)
    refine v_if_eq (tgt := 170) dX12_about_131 (by decide) (fun c30 => ?_) (fun c30 => ?_)
    · replace h := b_wp_t c30 h
      refine v_bipush ⟨by decide, by decide⟩ (by decide) dX12_about_170 ?_
      refine v_ireturn rfl dX12_about_172 ⟨by decide, by decide⟩ ?_
      exact ⟨_, rfl, rfl, h⟩
    · replace h := b_wp_f c30 h
      obtain ⟨⟨g31, g32, g33, g34, g35, g36⟩, h⟩ := b_wp_g h
      refine v_ldcw (n := 100000) ⟨by decide, by decide⟩ wk_12_388 dX12_about_134 ?_
      refine v_aload_n (f := 0) 0 rfl dX12_about_137 ?_
      refine v_getR (kf := 30) (kz := 30) rfl kd_11 rfl ⟨by decide, by decide⟩ rfl wf_12_64 dX12_about_138 ?_
      refine v_bipush ⟨by decide, by decide⟩ (by decide) dX12_about_141 ?_
      refine v_iload_n (f := 1) 1 rfl dX12_about_143 ?_
      refine v_imulN g31 dX12_about_144 ?_
      refine v_iload_n (f := 2) 2 rfl dX12_about_145 ?_
      refine v_iaddN g32 dX12_about_146 ?_
      refine v_bipush ⟨by decide, by decide⟩ (by decide) dX12_about_147 ?_
      refine v_isubN g33 dX12_about_149 ?_
      refine v_iaload kd_178 g34 (by decide) dX12_about_150 ?_
      refine v_imulN g35 dX12_about_151 ?_
      refine v_aload_n (f := 0) 0 rfl dX12_about_152 ?_
      refine v_getR (kf := 31) (kz := 31) rfl kd_11 rfl ⟨by decide, by decide⟩ rfl wf_12_67 dX12_about_153 ?_
      refine v_bipush ⟨by decide, by decide⟩ (by decide) dX12_about_156 ?_
      refine v_iload_n (f := 1) 1 rfl dX12_about_158 ?_
      refine v_imulN g31 dX12_about_159 ?_
      refine v_iload_n (f := 2) 2 rfl dX12_about_160 ?_
      refine v_iaddN g32 dX12_about_161 ?_
      refine v_bipush ⟨by decide, by decide⟩ (by decide) dX12_about_162 ?_
      refine v_isubN g33 dX12_about_164 ?_
      refine v_iaload kd_179 g34 (by decide) dX12_about_165 ?_
      refine v_iaddN g36 dX12_about_166 ?_
      refine v_goto (tgt := 172) dX12_about_167 (by decide) ?_
      refine v_ireturn rfl dX12_about_172 ⟨by decide, by decide⟩ ?_
      exact ⟨_, rfl, rfl, h⟩
  · replace h := b_wp_t c2 h
    refine v_bipush ⟨by decide, by decide⟩ (by decide) dX12_about_8 ?_
    refine v_ireturn rfl dX12_about_10 ⟨by decide, by decide⟩ ?_
    exact ⟨_, rfl, rfl, h⟩
theorem cf_X12_about {l : Launch} {E : bE} {M : bM} {v1 : Int} {v2 : Int} {Q : Int → Prop} (h : b_wp (F_X12_about v1 v2 M) Q) : b_C l E xX12_about yX12_about [bR 11, bI v1, bI v2] M (b_pIp M Q) := b_met (by decide) ⟨rfl, rfl⟩ (Nat.le_of_ble_eq_true rfl) (fun _ _ => t_X12_about h)
abbrev xX12_line : bX := ("BurntHallModel", prog_14_method_37_code, 2, (Option.some Jvm.ClassFile.FieldType.long), b_rm 3 0 0, 0, "line")
abbrev yX12_line : MethodName := ⟨"BurntHallModel", "line", "(I)J"⟩
theorem dX12_line_0 : decode prog_14_method_37_code 0 = .ok (.aload_n 0, 1) := by decide +kernel
theorem dX12_line_1 : decode prog_14_method_37_code 1 = .ok (.iload_n 1, 1) := by decide +kernel
theorem dX12_line_2 : decode prog_14_method_37_code 2 = .ok (.invokevirtual 385, 3) := by decide +kernel
theorem dX12_line_5 : decode prog_14_method_37_code 5 = .ok (.ifCond .eq 12, 3) := by decide +kernel
theorem dX12_line_8 : decode prog_14_method_37_code 8 = .ok (.aload_n 0, 1) := by decide +kernel
theorem dX12_line_9 : decode prog_14_method_37_code 9 = .ok (.getfield 51, 3) := by decide +kernel
theorem dX12_line_12 : decode prog_14_method_37_code 12 = .ok (.iload_n 1, 1) := by decide +kernel
theorem dX12_line_13 : decode prog_14_method_37_code 13 = .ok (.laload, 1) := by decide +kernel
theorem dX12_line_14 : decode prog_14_method_37_code 14 = .ok (.goto 4, 3) := by decide +kernel
theorem dX12_line_17 : decode prog_14_method_37_code 17 = .ok (.lconst 0, 1) := by decide +kernel
theorem dX12_line_18 : decode prog_14_method_37_code 18 = .ok (.lreturn, 1) := by decide +kernel
noncomputable def F_X12_line (v1 : Int) (M : bM) : Option (Int) :=
  b_bind (F_X12_isLot v1 M) (fun x1 => if x1 = 0 then (some 0) else (b_g (0 ≤ v1 ∧ v1 < 60) (some (M 174 v1))))
theorem t_X12_line {l : Launch} {E : bE} {Q : Int → Prop} {v1 : Int} {M : bM} (h : b_wp (F_X12_line v1 M) (Q)) : V l E xX12_line (0, 0) 0 [(0, bR 11), (1, bI v1)] [] M (b_pJp M Q) := by
  unfold F_X12_line at h
  refine v_aload_n (f := 0) 0 rfl dX12_line_0 ?_
  refine v_iload_n (f := 1) 1 rfl dX12_line_1 ?_
  refine v_cVIp (nA := 1) (As := [bI _]) (ix := 385) (cf_X12_isLot (b_wp_b h)) rfl kd_11 rfl rfl wc_X12_isLot wm_12_385 wi_X12_isLot ws_X12_isLot wn_12 ⟨by decide, by decide, by decide⟩ rfl ⟨by decide, by decide⟩ ⟨by decide, by decide⟩ (Nat.le_of_ble_eq_true rfl) dX12_line_2 (fun x1 h => ?_)
  refine v_if_eq (tgt := 17) dX12_line_5 (by decide) (fun c2 => ?_) (fun c2 => ?_)
  · replace h := b_wp_t c2 h
    refine v_lconst0 dX12_line_17 ?_
    refine v_lreturn rfl dX12_line_18 ⟨by decide, by decide⟩ ?_
    exact ⟨_, rfl, rfl, h⟩
  · replace h := b_wp_f c2 h
    obtain ⟨g3, h⟩ := b_wp_g h
    refine v_aload_n (f := 0) 0 rfl dX12_line_8 ?_
    refine v_getR (kf := 26) (kz := 26) rfl kd_11 rfl ⟨by decide, by decide⟩ rfl wf_12_51 dX12_line_9 ?_
    refine v_iload_n (f := 1) 1 rfl dX12_line_12 ?_
    refine v_laload kd_174 g3 (by decide) dX12_line_13 ?_
    refine v_goto (tgt := 18) dX12_line_14 (by decide) ?_
    refine v_lreturn rfl dX12_line_18 ⟨by decide, by decide⟩ ?_
    exact ⟨_, rfl, rfl, h⟩
theorem cf_X12_line {l : Launch} {E : bE} {M : bM} {v1 : Int} {Q : Int → Prop} (h : b_wp (F_X12_line v1 M) Q) : b_C l E xX12_line yX12_line [bR 11, bI v1] M (b_pJp M Q) := b_met (by decide) ⟨rfl, rfl⟩ (Nat.le_of_ble_eq_true rfl) (fun _ _ => t_X12_line h)
abbrev xX12_readBounds : bX := ("BurntHallModel", prog_14_method_38_code, 2, (Option.some Jvm.ClassFile.FieldType.boolean), b_rm 8 0 0, 0, "readBounds")
abbrev yX12_readBounds : MethodName := ⟨"BurntHallModel", "readBounds", "()Z"⟩
theorem dX12_readBounds_0 : decode prog_14_method_38_code 0 = .ok (.iconst 0, 1) := by decide +kernel
theorem dX12_readBounds_1 : decode prog_14_method_38_code 1 = .ok (.istore_n 1, 1) := by decide +kernel
theorem dX12_readBounds_2 : decode prog_14_method_38_code 2 = .ok (.aload_n 0, 1) := by decide +kernel
theorem dX12_readBounds_3 : decode prog_14_method_38_code 3 = .ok (.getfield 316, 3) := by decide +kernel
theorem dX12_readBounds_6 : decode prog_14_method_38_code 6 = .ok (.iconst 1, 1) := by decide +kernel
theorem dX12_readBounds_7 : decode prog_14_method_38_code 7 = .ok (.if_icmp .ne 12, 3) := by decide +kernel
theorem dX12_readBounds_10 : decode prog_14_method_38_code 10 = .ok (.aload_n 0, 1) := by decide +kernel
theorem dX12_readBounds_11 : decode prog_14_method_38_code 11 = .ok (.getfield 313, 3) := by decide +kernel
theorem dX12_readBounds_14 : decode prog_14_method_38_code 14 = .ok (.bipush 25, 2) := by decide +kernel
theorem dX12_readBounds_16 : decode prog_14_method_38_code 16 = .ok (.if_icmp .ge 9, 3) := by decide +kernel
theorem dX12_readBounds_19 : decode prog_14_method_38_code 19 = .ok (.aload_n 0, 1) := by decide +kernel
theorem dX12_readBounds_20 : decode prog_14_method_38_code 20 = .ok (.iconst 1, 1) := by decide +kernel
theorem dX12_readBounds_21 : decode prog_14_method_38_code 21 = .ok (.invokevirtual 389, 3) := by decide +kernel
theorem dX12_readBounds_24 : decode prog_14_method_38_code 24 = .ok (.ireturn, 1) := by decide +kernel
theorem dX12_readBounds_25 : decode prog_14_method_38_code 25 = .ok (.iload_n 1, 1) := by decide +kernel
theorem dX12_readBounds_26 : decode prog_14_method_38_code 26 = .ok (.bipush 12, 2) := by decide +kernel
theorem dX12_readBounds_28 : decode prog_14_method_38_code 28 = .ok (.if_icmp .ne 9, 3) := by decide +kernel
theorem dX12_readBounds_31 : decode prog_14_method_38_code 31 = .ok (.aload_n 0, 1) := by decide +kernel
theorem dX12_readBounds_32 : decode prog_14_method_38_code 32 = .ok (.iconst 4, 1) := by decide +kernel
theorem dX12_readBounds_33 : decode prog_14_method_38_code 33 = .ok (.invokevirtual 389, 3) := by decide +kernel
theorem dX12_readBounds_36 : decode prog_14_method_38_code 36 = .ok (.ireturn, 1) := by decide +kernel
theorem dX12_readBounds_37 : decode prog_14_method_38_code 37 = .ok (.aload_n 0, 1) := by decide +kernel
theorem dX12_readBounds_38 : decode prog_14_method_38_code 38 = .ok (.getfield 64, 3) := by decide +kernel
theorem dX12_readBounds_41 : decode prog_14_method_38_code 41 = .ok (.sipush 720, 3) := by decide +kernel
theorem dX12_readBounds_44 : decode prog_14_method_38_code 44 = .ok (.iload_n 1, 1) := by decide +kernel
theorem dX12_readBounds_45 : decode prog_14_method_38_code 45 = .ok (.iadd, 1) := by decide +kernel
theorem dX12_readBounds_46 : decode prog_14_method_38_code 46 = .ok (.aload_n 0, 1) := by decide +kernel
theorem dX12_readBounds_47 : decode prog_14_method_38_code 47 = .ok (.getfield 313, 3) := by decide +kernel
theorem dX12_readBounds_50 : decode prog_14_method_38_code 50 = .ok (.bipush 25, 2) := by decide +kernel
theorem dX12_readBounds_52 : decode prog_14_method_38_code 52 = .ok (.isub, 1) := by decide +kernel
theorem dX12_readBounds_53 : decode prog_14_method_38_code 53 = .ok (.iastore, 1) := by decide +kernel
theorem dX12_readBounds_54 : decode prog_14_method_38_code 54 = .ok (.aload_n 0, 1) := by decide +kernel
theorem dX12_readBounds_55 : decode prog_14_method_38_code 55 = .ok (.invokevirtual 292, 3) := by decide +kernel
theorem dX12_readBounds_58 : decode prog_14_method_38_code 58 = .ok (.aload_n 0, 1) := by decide +kernel
theorem dX12_readBounds_59 : decode prog_14_method_38_code 59 = .ok (.getfield 316, 3) := by decide +kernel
theorem dX12_readBounds_62 : decode prog_14_method_38_code 62 = .ok (.iconst 2, 1) := by decide +kernel
theorem dX12_readBounds_63 : decode prog_14_method_38_code 63 = .ok (.if_icmp .eq 9, 3) := by decide +kernel
theorem dX12_readBounds_66 : decode prog_14_method_38_code 66 = .ok (.aload_n 0, 1) := by decide +kernel
theorem dX12_readBounds_67 : decode prog_14_method_38_code 67 = .ok (.iconst 1, 1) := by decide +kernel
theorem dX12_readBounds_68 : decode prog_14_method_38_code 68 = .ok (.invokevirtual 389, 3) := by decide +kernel
theorem dX12_readBounds_71 : decode prog_14_method_38_code 71 = .ok (.ireturn, 1) := by decide +kernel
theorem dX12_readBounds_72 : decode prog_14_method_38_code 72 = .ok (.aload_n 0, 1) := by decide +kernel
theorem dX12_readBounds_73 : decode prog_14_method_38_code 73 = .ok (.getfield 338, 3) := by decide +kernel
theorem dX12_readBounds_76 : decode prog_14_method_38_code 76 = .ok (.iconst 1, 1) := by decide +kernel
theorem dX12_readBounds_77 : decode prog_14_method_38_code 77 = .ok (.bipush 60, 2) := by decide +kernel
theorem dX12_readBounds_79 : decode prog_14_method_38_code 79 = .ok (.invokestatic 279, 3) := by decide +kernel
theorem dX12_readBounds_82 : decode prog_14_method_38_code 82 = .ok (.ifCond .ne 9, 3) := by decide +kernel
theorem dX12_readBounds_85 : decode prog_14_method_38_code 85 = .ok (.aload_n 0, 1) := by decide +kernel
theorem dX12_readBounds_86 : decode prog_14_method_38_code 86 = .ok (.iconst 2, 1) := by decide +kernel
theorem dX12_readBounds_87 : decode prog_14_method_38_code 87 = .ok (.invokevirtual 389, 3) := by decide +kernel
theorem dX12_readBounds_90 : decode prog_14_method_38_code 90 = .ok (.ireturn, 1) := by decide +kernel
theorem dX12_readBounds_91 : decode prog_14_method_38_code 91 = .ok (.aload_n 0, 1) := by decide +kernel
theorem dX12_readBounds_92 : decode prog_14_method_38_code 92 = .ok (.getfield 67, 3) := by decide +kernel
theorem dX12_readBounds_95 : decode prog_14_method_38_code 95 = .ok (.sipush 720, 3) := by decide +kernel
theorem dX12_readBounds_98 : decode prog_14_method_38_code 98 = .ok (.iload_n 1, 1) := by decide +kernel
theorem dX12_readBounds_99 : decode prog_14_method_38_code 99 = .ok (.iadd, 1) := by decide +kernel
theorem dX12_readBounds_100 : decode prog_14_method_38_code 100 = .ok (.aload_n 0, 1) := by decide +kernel
theorem dX12_readBounds_101 : decode prog_14_method_38_code 101 = .ok (.getfield 338, 3) := by decide +kernel
theorem dX12_readBounds_104 : decode prog_14_method_38_code 104 = .ok (.iastore, 1) := by decide +kernel
theorem dX12_readBounds_105 : decode prog_14_method_38_code 105 = .ok (.iinc 1 1, 3) := by decide +kernel
theorem dX12_readBounds_108 : decode prog_14_method_38_code 108 = .ok (.aload_n 0, 1) := by decide +kernel
theorem dX12_readBounds_109 : decode prog_14_method_38_code 109 = .ok (.invokevirtual 292, 3) := by decide +kernel
theorem dX12_readBounds_112 : decode prog_14_method_38_code 112 = .ok (.aload_n 0, 1) := by decide +kernel
theorem dX12_readBounds_113 : decode prog_14_method_38_code 113 = .ok (.getfield 316, 3) := by decide +kernel
theorem dX12_readBounds_116 : decode prog_14_method_38_code 116 = .ok (.iconst 3, 1) := by decide +kernel
theorem dX12_readBounds_117 : decode prog_14_method_38_code 117 = .ok (.if_icmp .eq 9, 3) := by decide +kernel
theorem dX12_readBounds_120 : decode prog_14_method_38_code 120 = .ok (.aload_n 0, 1) := by decide +kernel
theorem dX12_readBounds_121 : decode prog_14_method_38_code 121 = .ok (.iconst 1, 1) := by decide +kernel
theorem dX12_readBounds_122 : decode prog_14_method_38_code 122 = .ok (.invokevirtual 389, 3) := by decide +kernel
theorem dX12_readBounds_125 : decode prog_14_method_38_code 125 = .ok (.ireturn, 1) := by decide +kernel
theorem dX12_readBounds_126 : decode prog_14_method_38_code 126 = .ok (.aload_n 0, 1) := by decide +kernel
theorem dX12_readBounds_127 : decode prog_14_method_38_code 127 = .ok (.invokevirtual 292, 3) := by decide +kernel
theorem dX12_readBounds_130 : decode prog_14_method_38_code 130 = .ok (.aload_n 0, 1) := by decide +kernel
theorem dX12_readBounds_131 : decode prog_14_method_38_code 131 = .ok (.getfield 316, 3) := by decide +kernel
theorem dX12_readBounds_134 : decode prog_14_method_38_code 134 = .ok (.bipush 8, 2) := by decide +kernel
theorem dX12_readBounds_136 : decode prog_14_method_38_code 136 = .ok (.if_icmp .ne (-134), 3) := by decide +kernel
theorem dX12_readBounds_139 : decode prog_14_method_38_code 139 = .ok (.aload_n 0, 1) := by decide +kernel
theorem dX12_readBounds_140 : decode prog_14_method_38_code 140 = .ok (.iload_n 1, 1) := by decide +kernel
theorem dX12_readBounds_141 : decode prog_14_method_38_code 141 = .ok (.putfield 392, 3) := by decide +kernel
theorem dX12_readBounds_144 : decode prog_14_method_38_code 144 = .ok (.iconst 1, 1) := by decide +kernel
theorem dX12_readBounds_145 : decode prog_14_method_38_code 145 = .ok (.ireturn, 1) := by decide +kernel
abbrev A_X12_readBounds_2 (l : Launch) (E : bE) (Q : (Int × bM) → Prop) : (Int × bM) → Prop := (fun t : Int × bM => V l E xX12_readBounds (0, 0) 2 [(0, bR 11), (1, bI (t.1))] [] t.2 (b_pI Q))
abbrev X_X12_readBounds_2 (l : Launch) (E : bE) (Q : (Int × bM) → Prop) : ((Int × bM) ⊕ (Int × bM)) → Prop := (Sum.elim (fun t : Int × bM => V l E xX12_readBounds (0, 0) 139 [(0, bR 11), (1, bI (t.1))] [] t.2 (b_pI Q)) Q)
noncomputable def F_X12_readBounds_b19 (M : bM) : Option ((Int × bM) ⊕ ((Int × bM) ⊕ (Int × bM))) :=
  b_bind (F_X12_wrong 1 M) (fun t => b_two t (fun x2 M3 => b_g (x2 = 0 ∨ x2 = 1) (some (.inr (.inr (x2, M3))))))
theorem t_X12_readBounds_b19 {l : Launch} {E : bE} {Q : (Int × bM) → Prop} {M : bM} (hfg : b_fg E) (h : b_wp (F_X12_readBounds_b19 M) (Sum.elim (A_X12_readBounds_2 l E Q ) (X_X12_readBounds_2 l E Q ))) : V l E xX12_readBounds (0, 0) 19 [(0, bR 11)] [] M (b_pI Q) := by
  unfold F_X12_readBounds_b19 at h
  refine v_aload_n (f := 0) 0 rfl dX12_readBounds_19 ?_
  refine v_iconst ⟨by decide, by decide⟩ dX12_readBounds_20 ?_
  refine v_cVI (nA := 1) (As := [bI _]) (ix := 389) (cf_X12_wrong (b_wp_b h)) rfl kd_11 rfl rfl wc_X12_wrong wm_12_389 wi_X12_wrong ws_X12_wrong wn_12 ⟨by decide, by decide, by decide⟩ rfl ⟨by decide, by decide⟩ ⟨by decide, by decide⟩ (Nat.le_of_ble_eq_true rfl) dX12_readBounds_21 (fun x2 M3 h => ?_)
  replace h := b_wp_two h
  obtain ⟨g4, h⟩ := b_wp_g h
  refine v_zreturn rfl g4 dX12_readBounds_24 ⟨by decide, by decide⟩ ?_
  exact ⟨_, rfl, h⟩
noncomputable def F_X12_readBounds_s2 (v1 : Int) (M : bM) : Option ((Int × bM) ⊕ ((Int × bM) ⊕ (Int × bM))) :=
  if (M 11 3) = 1 then (if 25 ≤ (M 11 4) then (if v1 = 12 then (b_bind (F_X12_wrong 4 M) (fun t => b_two t (fun x32 M33 => b_g (x32 = 0 ∨ x32 = 1) (some (.inr (.inr (x32, M33))))))) else (b_g ((b_i32 (720 + v1)) ∧ (b_i32 ((M 11 4) - 25)) ∧ (0 ≤ (720 + v1) ∧ (720 + v1) < 732)) (b_let (b_up M 178 (720 + v1) ((M 11 4) - 25)) (fun M10 => b_bind (F_X12_scan M10) (fun M11 => if (M11 11 3) = 2 then (b_bind (F_X12_in (M11 11 7) 1 60 M11) (fun x13 => if x13 = 0 then (b_bind (F_X12_wrong 2 M11) (fun t => b_two t (fun x26 M27 => b_g (x26 = 0 ∨ x26 = 1) (some (.inr (.inr (x26, M27))))))) else (b_g ((b_i32 (720 + v1)) ∧ (0 ≤ (720 + v1) ∧ (720 + v1) < 732)) (b_let (b_up M11 179 (720 + v1) (M11 11 7)) (fun M17 => b_g (b_i32 (v1 + 1)) (b_bind (F_X12_scan M17) (fun M19 => if (M19 11 3) = 3 then (b_bind (F_X12_scan M19) (fun M21 => if (M21 11 3) = 8 then (some (.inr (.inl ((v1 + 1), M21)))) else (some (.inl ((v1 + 1), M21))))) else (b_bind (F_X12_wrong 1 M19) (fun t => b_two t (fun x23 M24 => b_g (x23 = 0 ∨ x23 = 1) (some (.inr (.inr (x23, M24)))))))))))))) else (b_bind (F_X12_wrong 1 M11) (fun t => b_two t (fun x29 M30 => b_g (x29 = 0 ∨ x29 = 1) (some (.inr (.inr (x29, M30)))))))))))) else (F_X12_readBounds_b19 M)) else (F_X12_readBounds_b19 M)
theorem t_X12_readBounds_s2 {l : Launch} {E : bE} {Q : (Int × bM) → Prop} {v1 : Int} {M : bM} (hfg : b_fg E) (h : b_wp (F_X12_readBounds_s2 v1 M) (Sum.elim (A_X12_readBounds_2 l E Q ) (X_X12_readBounds_2 l E Q ))) : V l E xX12_readBounds (0, 0) 2 [(0, bR 11), (1, bI v1)] [] M (b_pI Q) := by
  unfold F_X12_readBounds_s2 at h
  refine v_aload_n (f := 0) 0 rfl dX12_readBounds_2 ?_
  refine v_getI (kf := 3) (kz := 3) rfl kd_11 rfl ⟨by decide, by decide⟩ rfl wf_12_316 dX12_readBounds_3 ?_
  refine v_iconst ⟨by decide, by decide⟩ dX12_readBounds_6 ?_
  refine v_icmp_ne (tgt := 19) dX12_readBounds_7 (by decide) (fun c1 => ?_) (fun c1 => ?_)
  · replace h := b_wp_f c1 h
    refine v_sub (ls2 := [(0, bR _)]) [0] rfl ?_
    exact t_X12_readBounds_b19 hfg h
  · replace h := b_wp_t c1 h
    refine v_aload_n (f := 0) 0 rfl dX12_readBounds_10 ?_
    refine v_getI (kf := 4) (kz := 4) rfl kd_11 rfl ⟨by decide, by decide⟩ rfl wf_12_313 dX12_readBounds_11 ?_
    refine v_bipush ⟨by decide, by decide⟩ (by decide) dX12_readBounds_14 ?_
    refine v_icmp_ge (tgt := 25) dX12_readBounds_16 (by decide) (fun c5 => ?_) (fun c5 => ?_)
    · replace h := b_wp_t c5 h
      refine v_iload_n (f := 1) 1 rfl dX12_readBounds_25 ?_
      refine v_bipush ⟨by decide, by decide⟩ (by decide) dX12_readBounds_26 ?_
      refine v_icmp_ne (tgt := 37) dX12_readBounds_28 (by decide) (fun c6 => ?_) (fun c6 => ?_)
      · replace h := b_wp_f c6 h
        obtain ⟨⟨g7, g8, g9⟩, h⟩ := b_wp_g h
        refine v_aload_n (f := 0) 0 rfl dX12_readBounds_37 ?_
        refine v_getR (kf := 30) (kz := 30) rfl kd_11 rfl ⟨by decide, by decide⟩ rfl wf_12_64 dX12_readBounds_38 ?_
        refine v_sipush ⟨by decide, by decide⟩ (by decide) dX12_readBounds_41 ?_
        refine v_iload_n (f := 1) 1 rfl dX12_readBounds_44 ?_
        refine v_iaddN g7 dX12_readBounds_45 ?_
        refine v_aload_n (f := 0) 0 rfl dX12_readBounds_46 ?_
        refine v_getI (kf := 4) (kz := 4) rfl kd_11 rfl ⟨by decide, by decide⟩ rfl wf_12_313 dX12_readBounds_47 ?_
        refine v_bipush ⟨by decide, by decide⟩ (by decide) dX12_readBounds_50 ?_
        refine v_isubN g8 dX12_readBounds_52 ?_
        refine v_iastore kd_178 g9 (by decide) dX12_readBounds_53 ?_
        replace h := b_wp_l h
        refine v_aload_n (f := 0) 0 rfl dX12_readBounds_54 ?_
        refine v_cVV (nA := 0) (As := []) (ix := 292) (cf_X12_scan hfg (b_wp_b h)) rfl kd_11 rfl rfl wc_X12_scan wm_12_292 wi_X12_scan ws_X12_scan wn_12 ⟨by decide, by decide, by decide⟩ rfl ⟨by decide, by decide⟩ ⟨by decide, by decide⟩ (Nat.le_of_ble_eq_true rfl) dX12_readBounds_55 (fun M11 h => ?_)
        refine v_aload_n (f := 0) 0 rfl dX12_readBounds_58 ?_
        refine v_getI (kf := 3) (kz := 3) rfl kd_11 rfl ⟨by decide, by decide⟩ rfl wf_12_316 dX12_readBounds_59 ?_
        refine v_iconst ⟨by decide, by decide⟩ dX12_readBounds_62 ?_
        refine v_icmp_eq (tgt := 72) dX12_readBounds_63 (by decide) (fun c12 => ?_) (fun c12 => ?_)
        · replace h := b_wp_t c12 h
          refine v_aload_n (f := 0) 0 rfl dX12_readBounds_72 ?_
          refine v_getI (kf := 7) (kz := 7) rfl kd_11 rfl ⟨by decide, by decide⟩ rfl wf_12_338 dX12_readBounds_73 ?_
          refine v_iconst ⟨by decide, by decide⟩ dX12_readBounds_76 ?_
          refine v_bipush ⟨by decide, by decide⟩ (by decide) dX12_readBounds_77 ?_
          refine v_cSIp (nA := 3) (As := [bI _, bI _, bI _]) (ix := 279) (cf_X12_in (b_wp_b h)) rfl wc_X12_in wm_12_279 wi_X12_in wn_12 ⟨by decide, by decide, by decide⟩ rfl ⟨by decide, by decide⟩ ⟨by decide, by decide⟩ (Nat.le_of_ble_eq_true rfl) dX12_readBounds_79 (fun x13 h => ?_)
          refine v_if_ne (tgt := 91) dX12_readBounds_82 (by decide) (fun c14 => ?_) (fun c14 => ?_)
          · replace h := b_wp_f c14 h
            obtain ⟨⟨g15, g16⟩, h⟩ := b_wp_g h
            refine v_aload_n (f := 0) 0 rfl dX12_readBounds_91 ?_
            refine v_getR (kf := 31) (kz := 31) rfl kd_11 rfl ⟨by decide, by decide⟩ rfl wf_12_67 dX12_readBounds_92 ?_
            refine v_sipush ⟨by decide, by decide⟩ (by decide) dX12_readBounds_95 ?_
            refine v_iload_n (f := 1) 1 rfl dX12_readBounds_98 ?_
            refine v_iaddN g15 dX12_readBounds_99 ?_
            refine v_aload_n (f := 0) 0 rfl dX12_readBounds_100 ?_
            refine v_getI (kf := 7) (kz := 7) rfl kd_11 rfl ⟨by decide, by decide⟩ rfl wf_12_338 dX12_readBounds_101 ?_
            refine v_iastore kd_179 g16 (by decide) dX12_readBounds_104 ?_
            replace h := b_wp_l h
            obtain ⟨g18, h⟩ := b_wp_g h
            refine v_iincN (ls' := [(1, bI _), (0, bR _)]) 1 rfl (by decide) g18 dX12_readBounds_105 rfl ?_
            refine v_aload_n (f := 0) 1 rfl dX12_readBounds_108 ?_
            refine v_cVV (nA := 0) (As := []) (ix := 292) (cf_X12_scan hfg (b_wp_b h)) rfl kd_11 rfl rfl wc_X12_scan wm_12_292 wi_X12_scan ws_X12_scan wn_12 ⟨by decide, by decide, by decide⟩ rfl ⟨by decide, by decide⟩ ⟨by decide, by decide⟩ (Nat.le_of_ble_eq_true rfl) dX12_readBounds_109 (fun M19 h => ?_)
            refine v_aload_n (f := 0) 1 rfl dX12_readBounds_112 ?_
            refine v_getI (kf := 3) (kz := 3) rfl kd_11 rfl ⟨by decide, by decide⟩ rfl wf_12_316 dX12_readBounds_113 ?_
            refine v_iconst ⟨by decide, by decide⟩ dX12_readBounds_116 ?_
            refine v_icmp_eq (tgt := 126) dX12_readBounds_117 (by decide) (fun c20 => ?_) (fun c20 => ?_)
            · replace h := b_wp_t c20 h
              refine v_aload_n (f := 0) 1 rfl dX12_readBounds_126 ?_
              refine v_cVV (nA := 0) (As := []) (ix := 292) (cf_X12_scan hfg (b_wp_b h)) rfl kd_11 rfl rfl wc_X12_scan wm_12_292 wi_X12_scan ws_X12_scan wn_12 ⟨by decide, by decide, by decide⟩ rfl ⟨by decide, by decide⟩ ⟨by decide, by decide⟩ (Nat.le_of_ble_eq_true rfl) dX12_readBounds_127 (fun M21 h => ?_)
              refine v_aload_n (f := 0) 1 rfl dX12_readBounds_130 ?_
              refine v_getI (kf := 3) (kz := 3) rfl kd_11 rfl ⟨by decide, by decide⟩ rfl wf_12_316 dX12_readBounds_131 ?_
              refine v_bipush ⟨by decide, by decide⟩ (by decide) dX12_readBounds_134 ?_
              refine v_icmp_ne (tgt := 2) dX12_readBounds_136 (by decide) (fun c22 => ?_) (fun c22 => ?_)
              · replace h := b_wp_f c22 h
                refine v_sub (ls2 := [(0, bR _), (1, bI _)]) [1, 0] rfl ?_
                exact h
              · replace h := b_wp_t c22 h
                refine v_sub (ls2 := [(0, bR _), (1, bI _)]) [1, 0] rfl ?_
                exact h
            · replace h := b_wp_f c20 h
              refine v_aload_n (f := 0) 1 rfl dX12_readBounds_120 ?_
              refine v_iconst ⟨by decide, by decide⟩ dX12_readBounds_121 ?_
              refine v_cVI (nA := 1) (As := [bI _]) (ix := 389) (cf_X12_wrong (b_wp_b h)) rfl kd_11 rfl rfl wc_X12_wrong wm_12_389 wi_X12_wrong ws_X12_wrong wn_12 ⟨by decide, by decide, by decide⟩ rfl ⟨by decide, by decide⟩ ⟨by decide, by decide⟩ (Nat.le_of_ble_eq_true rfl) dX12_readBounds_122 (fun x23 M24 h => ?_)
              replace h := b_wp_two h
              obtain ⟨g25, h⟩ := b_wp_g h
              refine v_zreturn rfl g25 dX12_readBounds_125 ⟨by decide, by decide⟩ ?_
              exact ⟨_, rfl, h⟩
          · replace h := b_wp_t c14 h
            refine v_aload_n (f := 0) 0 rfl dX12_readBounds_85 ?_
            refine v_iconst ⟨by decide, by decide⟩ dX12_readBounds_86 ?_
            refine v_cVI (nA := 1) (As := [bI _]) (ix := 389) (cf_X12_wrong (b_wp_b h)) rfl kd_11 rfl rfl wc_X12_wrong wm_12_389 wi_X12_wrong ws_X12_wrong wn_12 ⟨by decide, by decide, by decide⟩ rfl ⟨by decide, by decide⟩ ⟨by decide, by decide⟩ (Nat.le_of_ble_eq_true rfl) dX12_readBounds_87 (fun x26 M27 h => ?_)
            replace h := b_wp_two h
            obtain ⟨g28, h⟩ := b_wp_g h
            refine v_zreturn rfl g28 dX12_readBounds_90 ⟨by decide, by decide⟩ ?_
            exact ⟨_, rfl, h⟩
        · replace h := b_wp_f c12 h
          refine v_aload_n (f := 0) 0 rfl dX12_readBounds_66 ?_
          refine v_iconst ⟨by decide, by decide⟩ dX12_readBounds_67 ?_
          refine v_cVI (nA := 1) (As := [bI _]) (ix := 389) (cf_X12_wrong (b_wp_b h)) rfl kd_11 rfl rfl wc_X12_wrong wm_12_389 wi_X12_wrong ws_X12_wrong wn_12 ⟨by decide, by decide, by decide⟩ rfl ⟨by decide, by decide⟩ ⟨by decide, by decide⟩ (Nat.le_of_ble_eq_true rfl) dX12_readBounds_68 (fun x29 M30 h => ?_)
          replace h := b_wp_two h
          obtain ⟨g31, h⟩ := b_wp_g h
          refine v_zreturn rfl g31 dX12_readBounds_71 ⟨by decide, by decide⟩ ?_
          exact ⟨_, rfl, h⟩
      · replace h := b_wp_t c6 h
        refine v_aload_n (f := 0) 0 rfl dX12_readBounds_31 ?_
        refine v_iconst ⟨by decide, by decide⟩ dX12_readBounds_32 ?_
        refine v_cVI (nA := 1) (As := [bI _]) (ix := 389) (cf_X12_wrong (b_wp_b h)) rfl kd_11 rfl rfl wc_X12_wrong wm_12_389 wi_X12_wrong ws_X12_wrong wn_12 ⟨by decide, by decide, by decide⟩ rfl ⟨by decide, by decide⟩ ⟨by decide, by decide⟩ (Nat.le_of_ble_eq_true rfl) dX12_readBounds_33 (fun x32 M33 h => ?_)
        replace h := b_wp_two h
        obtain ⟨g34, h⟩ := b_wp_g h
        refine v_zreturn rfl g34 dX12_readBounds_36 ⟨by decide, by decide⟩ ?_
        exact ⟨_, rfl, h⟩
    · replace h := b_wp_f c5 h
      refine v_sub (ls2 := [(0, bR _)]) [0] rfl ?_
      exact t_X12_readBounds_b19 hfg h
theorem l_X12_readBounds_2 {l : Launch} {E : bE} {Q : (Int × bM) → Prop} (hfg : b_fg E) {s : Int × bM} (h : b_wp (b_loop (fun t => F_X12_readBounds_s2 t.1 t.2) s) (X_X12_readBounds_2 l E Q )) : A_X12_readBounds_2 l E Q  s := b_loop_wp (fun t h => t_X12_readBounds_s2 hfg h) s h
noncomputable def F_X12_readBounds_b139 (v1 : Int) (M : bM) : Option (Int × bM) :=
  b_let (b_up M 11 32 v1) (fun M35 => some (1, M35))
theorem t_X12_readBounds_b139 {l : Launch} {E : bE} {Q : (Int × bM) → Prop} {v1 : Int} {M : bM} (hfg : b_fg E) (h : b_wp (F_X12_readBounds_b139 v1 M) (Q)) : V l E xX12_readBounds (0, 0) 139 [(0, bR 11), (1, bI v1)] [] M (b_pI Q) := by
  unfold F_X12_readBounds_b139 at h
  refine v_aload_n (f := 0) 0 rfl dX12_readBounds_139 ?_
  refine v_iload_n (f := 1) 1 rfl dX12_readBounds_140 ?_
  refine v_putI (kf := 32) (kz := 32) rfl kd_11 rfl ⟨by decide, by decide⟩ rfl wf_12_392 rfl rfl dX12_readBounds_141 ?_
  replace h := b_wp_l h
  refine v_iconst ⟨by decide, by decide⟩ dX12_readBounds_144 ?_
  refine v_zreturn rfl (Or.inr rfl) dX12_readBounds_145 ⟨by decide, by decide⟩ ?_
  exact ⟨_, rfl, h⟩
noncomputable def F_X12_readBounds (M : bM) : Option (Int × bM) :=
  b_bind (b_loop (fun t => F_X12_readBounds_s2 t.1 t.2) (0, M)) (Sum.elim (fun t => F_X12_readBounds_b139 (t.1) (t.2)) some)
theorem t_X12_readBounds {l : Launch} {E : bE} {Q : (Int × bM) → Prop} {M : bM} (hfg : b_fg E) (h : b_wp (F_X12_readBounds M) (Q)) : V l E xX12_readBounds (0, 0) 0 [(0, bR 11)] [] M (b_pI Q) := by
  unfold F_X12_readBounds at h
  refine v_iconst ⟨by decide, by decide⟩ dX12_readBounds_0 ?_
  refine v_istore_n (g := 1) (i := 1) (ls' := [(1, bI _), (0, bR _)]) rfl (by decide) dX12_readBounds_1 rfl ?_
  refine v_sub (ls2 := [(0, bR _), (1, bI _)]) [1, 0] rfl ?_
  refine l_X12_readBounds_2 hfg (b_wp_m (fun t h => ?_) (b_wp_b h))
  cases t with
  | inr o => exact h
  | inl t =>
    show V l E xX12_readBounds (0, 0) 139 [(0, bR 11), (1, bI _)] [] _ (b_pI Q)
    replace h := b_wp_inl h
    exact t_X12_readBounds_b139 hfg h
theorem cf_X12_readBounds {l : Launch} {E : bE} {M : bM} (hfg : b_fg E) {Q : (Int × bM) → Prop} (h : b_wp (F_X12_readBounds M) Q) : b_C l E xX12_readBounds yX12_readBounds [bR 11] M (b_pI Q) := b_met (by decide) ⟨rfl, rfl⟩ (Nat.le_of_ble_eq_true rfl) (fun _ _ => t_X12_readBounds hfg h)
abbrev xX12_bounds : bX := ("BurntHallModel", prog_14_method_39_code, 5, (Option.some Jvm.ClassFile.FieldType.int), b_rm 9 0 0, 0, "bounds")
abbrev yX12_bounds : MethodName := ⟨"BurntHallModel", "bounds", "(III)I"⟩
theorem dX12_bounds_0 : decode prog_14_method_39_code 0 = .ok (.aload_n 0, 1) := by decide +kernel
theorem dX12_bounds_1 : decode prog_14_method_39_code 1 = .ok (.invokevirtual 395, 3) := by decide +kernel
theorem dX12_bounds_4 : decode prog_14_method_39_code 4 = .ok (.aload_n 0, 1) := by decide +kernel
theorem dX12_bounds_5 : decode prog_14_method_39_code 5 = .ok (.iload_n 1, 1) := by decide +kernel
theorem dX12_bounds_6 : decode prog_14_method_39_code 6 = .ok (.invokevirtual 385, 3) := by decide +kernel
theorem dX12_bounds_9 : decode prog_14_method_39_code 9 = .ok (.ifCond .eq 23, 3) := by decide +kernel
theorem dX12_bounds_12 : decode prog_14_method_39_code 12 = .ok (.iload_n 2, 1) := by decide +kernel
theorem dX12_bounds_13 : decode prog_14_method_39_code 13 = .ok (.iconst 0, 1) := by decide +kernel
theorem dX12_bounds_14 : decode prog_14_method_39_code 14 = .ok (.bipush 99, 2) := by decide +kernel
theorem dX12_bounds_16 : decode prog_14_method_39_code 16 = .ok (.invokestatic 279, 3) := by decide +kernel
theorem dX12_bounds_19 : decode prog_14_method_39_code 19 = .ok (.ifCond .eq 13, 3) := by decide +kernel
theorem dX12_bounds_22 : decode prog_14_method_39_code 22 = .ok (.iload_n 3, 1) := by decide +kernel
theorem dX12_bounds_23 : decode prog_14_method_39_code 23 = .ok (.iconst 0, 1) := by decide +kernel
theorem dX12_bounds_24 : decode prog_14_method_39_code 24 = .ok (.bipush 99, 2) := by decide +kernel
theorem dX12_bounds_26 : decode prog_14_method_39_code 26 = .ok (.invokestatic 279, 3) := by decide +kernel
theorem dX12_bounds_29 : decode prog_14_method_39_code 29 = .ok (.ifCond .ne 6, 3) := by decide +kernel
theorem dX12_bounds_32 : decode prog_14_method_39_code 32 = .ok (.bipush (-2), 2) := by decide +kernel
theorem dX12_bounds_34 : decode prog_14_method_39_code 34 = .ok (.ireturn, 1) := by decide +kernel
theorem dX12_bounds_35 : decode prog_14_method_39_code 35 = .ok (.aload_n 0, 1) := by decide +kernel
theorem dX12_bounds_36 : decode prog_14_method_39_code 36 = .ok (.iconst 0, 1) := by decide +kernel
theorem dX12_bounds_37 : decode prog_14_method_39_code 37 = .ok (.putfield 341, 3) := by decide +kernel
theorem dX12_bounds_40 : decode prog_14_method_39_code 40 = .ok (.aload_n 0, 1) := by decide +kernel
theorem dX12_bounds_41 : decode prog_14_method_39_code 41 = .ok (.iconst (-1), 1) := by decide +kernel
theorem dX12_bounds_42 : decode prog_14_method_39_code 42 = .ok (.putfield 13, 3) := by decide +kernel
theorem dX12_bounds_45 : decode prog_14_method_39_code 45 = .ok (.aload_n 0, 1) := by decide +kernel
theorem dX12_bounds_46 : decode prog_14_method_39_code 46 = .ok (.invokevirtual 398, 3) := by decide +kernel
theorem dX12_bounds_49 : decode prog_14_method_39_code 49 = .ok (.ifCond .ne 5, 3) := by decide +kernel
theorem dX12_bounds_52 : decode prog_14_method_39_code 52 = .ok (.iconst (-1), 1) := by decide +kernel
theorem dX12_bounds_53 : decode prog_14_method_39_code 53 = .ok (.ireturn, 1) := by decide +kernel
theorem dX12_bounds_54 : decode prog_14_method_39_code 54 = .ok (.aload_n 0, 1) := by decide +kernel
theorem dX12_bounds_55 : decode prog_14_method_39_code 55 = .ok (.getfield 55, 3) := by decide +kernel
theorem dX12_bounds_58 : decode prog_14_method_39_code 58 = .ok (.iload_n 1, 1) := by decide +kernel
theorem dX12_bounds_59 : decode prog_14_method_39_code 59 = .ok (.aload_n 0, 1) := by decide +kernel
theorem dX12_bounds_60 : decode prog_14_method_39_code 60 = .ok (.getfield 392, 3) := by decide +kernel
theorem dX12_bounds_63 : decode prog_14_method_39_code 63 = .ok (.iastore, 1) := by decide +kernel
theorem dX12_bounds_64 : decode prog_14_method_39_code 64 = .ok (.aload_n 0, 1) := by decide +kernel
theorem dX12_bounds_65 : decode prog_14_method_39_code 65 = .ok (.getfield 58, 3) := by decide +kernel
theorem dX12_bounds_68 : decode prog_14_method_39_code 68 = .ok (.iload_n 1, 1) := by decide +kernel
theorem dX12_bounds_69 : decode prog_14_method_39_code 69 = .ok (.iload_n 2, 1) := by decide +kernel
theorem dX12_bounds_70 : decode prog_14_method_39_code 70 = .ok (.iastore, 1) := by decide +kernel
theorem dX12_bounds_71 : decode prog_14_method_39_code 71 = .ok (.aload_n 0, 1) := by decide +kernel
theorem dX12_bounds_72 : decode prog_14_method_39_code 72 = .ok (.getfield 61, 3) := by decide +kernel
theorem dX12_bounds_75 : decode prog_14_method_39_code 75 = .ok (.iload_n 1, 1) := by decide +kernel
theorem dX12_bounds_76 : decode prog_14_method_39_code 76 = .ok (.iload_n 3, 1) := by decide +kernel
theorem dX12_bounds_77 : decode prog_14_method_39_code 77 = .ok (.iastore, 1) := by decide +kernel
theorem dX12_bounds_78 : decode prog_14_method_39_code 78 = .ok (.iconst 0, 1) := by decide +kernel
theorem dX12_bounds_79 : decode prog_14_method_39_code 79 = .ok (.istore 4, 2) := by decide +kernel
theorem dX12_bounds_81 : decode prog_14_method_39_code 81 = .ok (.iload 4, 2) := by decide +kernel
theorem dX12_bounds_83 : decode prog_14_method_39_code 83 = .ok (.bipush 12, 2) := by decide +kernel
theorem dX12_bounds_85 : decode prog_14_method_39_code 85 = .ok (.if_icmp .ge 55, 3) := by decide +kernel
theorem dX12_bounds_88 : decode prog_14_method_39_code 88 = .ok (.aload_n 0, 1) := by decide +kernel
theorem dX12_bounds_89 : decode prog_14_method_39_code 89 = .ok (.getfield 64, 3) := by decide +kernel
theorem dX12_bounds_92 : decode prog_14_method_39_code 92 = .ok (.bipush 12, 2) := by decide +kernel
theorem dX12_bounds_94 : decode prog_14_method_39_code 94 = .ok (.iload_n 1, 1) := by decide +kernel
theorem dX12_bounds_95 : decode prog_14_method_39_code 95 = .ok (.imul, 1) := by decide +kernel
theorem dX12_bounds_96 : decode prog_14_method_39_code 96 = .ok (.iload 4, 2) := by decide +kernel
theorem dX12_bounds_98 : decode prog_14_method_39_code 98 = .ok (.iadd, 1) := by decide +kernel
theorem dX12_bounds_99 : decode prog_14_method_39_code 99 = .ok (.aload_n 0, 1) := by decide +kernel
theorem dX12_bounds_100 : decode prog_14_method_39_code 100 = .ok (.getfield 64, 3) := by decide +kernel
theorem dX12_bounds_103 : decode prog_14_method_39_code 103 = .ok (.sipush 720, 3) := by decide +kernel
theorem dX12_bounds_106 : decode prog_14_method_39_code 106 = .ok (.iload 4, 2) := by decide +kernel
theorem dX12_bounds_108 : decode prog_14_method_39_code 108 = .ok (.iadd, 1) := by decide +kernel
theorem dX12_bounds_109 : decode prog_14_method_39_code 109 = .ok (.iaload, 1) := by decide +kernel
theorem dX12_bounds_110 : decode prog_14_method_39_code 110 = .ok (.iastore, 1) := by decide +kernel
theorem dX12_bounds_111 : decode prog_14_method_39_code 111 = .ok (.aload_n 0, 1) := by decide +kernel
theorem dX12_bounds_112 : decode prog_14_method_39_code 112 = .ok (.getfield 67, 3) := by decide +kernel
theorem dX12_bounds_115 : decode prog_14_method_39_code 115 = .ok (.bipush 12, 2) := by decide +kernel
theorem dX12_bounds_117 : decode prog_14_method_39_code 117 = .ok (.iload_n 1, 1) := by decide +kernel
theorem dX12_bounds_118 : decode prog_14_method_39_code 118 = .ok (.imul, 1) := by decide +kernel
theorem dX12_bounds_119 : decode prog_14_method_39_code 119 = .ok (.iload 4, 2) := by decide +kernel
theorem dX12_bounds_121 : decode prog_14_method_39_code 121 = .ok (.iadd, 1) := by decide +kernel
theorem dX12_bounds_122 : decode prog_14_method_39_code 122 = .ok (.aload_n 0, 1) := by decide +kernel
theorem dX12_bounds_123 : decode prog_14_method_39_code 123 = .ok (.getfield 67, 3) := by decide +kernel
theorem dX12_bounds_126 : decode prog_14_method_39_code 126 = .ok (.sipush 720, 3) := by decide +kernel
theorem dX12_bounds_129 : decode prog_14_method_39_code 129 = .ok (.iload 4, 2) := by decide +kernel
theorem dX12_bounds_131 : decode prog_14_method_39_code 131 = .ok (.iadd, 1) := by decide +kernel
theorem dX12_bounds_132 : decode prog_14_method_39_code 132 = .ok (.iaload, 1) := by decide +kernel
theorem dX12_bounds_133 : decode prog_14_method_39_code 133 = .ok (.iastore, 1) := by decide +kernel
theorem dX12_bounds_134 : decode prog_14_method_39_code 134 = .ok (.iinc 4 1, 3) := by decide +kernel
theorem dX12_bounds_137 : decode prog_14_method_39_code 137 = .ok (.goto (-56), 3) := by decide +kernel
theorem dX12_bounds_140 : decode prog_14_method_39_code 140 = .ok (.aload_n 0, 1) := by decide +kernel
theorem dX12_bounds_141 : decode prog_14_method_39_code 141 = .ok (.getfield 392, 3) := by decide +kernel
theorem dX12_bounds_144 : decode prog_14_method_39_code 144 = .ok (.ireturn, 1) := by decide +kernel
abbrev A_X12_bounds_81 (l : Launch) (E : bE) (Q : (Int × bM) → Prop) (v1 : Int) : (Int × bM) → Prop := (fun t : Int × bM => V l E xX12_bounds (0, 0) 81 [(0, bR 11), (1, bI v1), (4, bI (t.1))] [] t.2 (b_pI Q))
abbrev X_X12_bounds_81 (l : Launch) (E : bE) (Q : (Int × bM) → Prop) (v1 : Int) : (bM) → Prop := (fun t : bM => V l E xX12_bounds (0, 0) 140 [(0, bR 11)] [] t (b_pI Q))
noncomputable def F_X12_bounds_s81 (v1 : Int) (v4 : Int) (M : bM) : Option ((Int × bM) ⊕ (bM)) :=
  if 12 ≤ v4 then (some (.inr (M))) else (b_g ((b_i32 (12 * v1)) ∧ (b_i32 ((12 * v1) + v4)) ∧ (b_i32 (720 + v4)) ∧ (0 ≤ (720 + v4) ∧ (720 + v4) < 732) ∧ (0 ≤ ((12 * v1) + v4) ∧ ((12 * v1) + v4) < 732)) (b_let (b_up M 178 ((12 * v1) + v4) (M 178 (720 + v4))) (fun M25 => b_g ((b_i32 (12 * v1)) ∧ (b_i32 ((12 * v1) + v4)) ∧ (b_i32 (720 + v4)) ∧ (0 ≤ (720 + v4) ∧ (720 + v4) < 732) ∧ (0 ≤ ((12 * v1) + v4) ∧ ((12 * v1) + v4) < 732)) (b_let (b_up M25 179 ((12 * v1) + v4) (M25 179 (720 + v4))) (fun M31 => b_g (b_i32 (v4 + 1)) (some (.inl ((v4 + 1), M31))))))))
theorem t_X12_bounds_s81 {l : Launch} {E : bE} {Q : (Int × bM) → Prop} {v1 : Int} {v4 : Int} {M : bM} (hfg : b_fg E) (h : b_wp (F_X12_bounds_s81 v1 v4 M) (Sum.elim (A_X12_bounds_81 l E Q v1) (X_X12_bounds_81 l E Q v1))) : V l E xX12_bounds (0, 0) 81 [(0, bR 11), (1, bI v1), (4, bI v4)] [] M (b_pI Q) := by
  unfold F_X12_bounds_s81 at h
  refine v_iload (i := 4) 2 rfl dX12_bounds_81 ?_
  refine v_bipush ⟨by decide, by decide⟩ (by decide) dX12_bounds_83 ?_
  refine v_icmp_ge (tgt := 140) dX12_bounds_85 (by decide) (fun c19 => ?_) (fun c19 => ?_)
  · replace h := b_wp_t c19 h
    refine v_sub (ls2 := [(0, bR _)]) [0] rfl ?_
    exact h
  · replace h := b_wp_f c19 h
    obtain ⟨⟨g20, g21, g22, g23, g24⟩, h⟩ := b_wp_g h
    refine v_aload_n (f := 0) 0 rfl dX12_bounds_88 ?_
    refine v_getR (kf := 30) (kz := 30) rfl kd_11 rfl ⟨by decide, by decide⟩ rfl wf_12_64 dX12_bounds_89 ?_
    refine v_bipush ⟨by decide, by decide⟩ (by decide) dX12_bounds_92 ?_
    refine v_iload_n (f := 1) 1 rfl dX12_bounds_94 ?_
    refine v_imulN g20 dX12_bounds_95 ?_
    refine v_iload (i := 4) 2 rfl dX12_bounds_96 ?_
    refine v_iaddN g21 dX12_bounds_98 ?_
    refine v_aload_n (f := 0) 0 rfl dX12_bounds_99 ?_
    refine v_getR (kf := 30) (kz := 30) rfl kd_11 rfl ⟨by decide, by decide⟩ rfl wf_12_64 dX12_bounds_100 ?_
    refine v_sipush ⟨by decide, by decide⟩ (by decide) dX12_bounds_103 ?_
    refine v_iload (i := 4) 2 rfl dX12_bounds_106 ?_
    refine v_iaddN g22 dX12_bounds_108 ?_
    refine v_iaload kd_178 g23 (by decide) dX12_bounds_109 ?_
    refine v_iastore kd_178 g24 (by decide) dX12_bounds_110 ?_
    replace h := b_wp_l h
    obtain ⟨⟨g26, g27, g28, g29, g30⟩, h⟩ := b_wp_g h
    refine v_aload_n (f := 0) 0 rfl dX12_bounds_111 ?_
    refine v_getR (kf := 31) (kz := 31) rfl kd_11 rfl ⟨by decide, by decide⟩ rfl wf_12_67 dX12_bounds_112 ?_
    refine v_bipush ⟨by decide, by decide⟩ (by decide) dX12_bounds_115 ?_
    refine v_iload_n (f := 1) 1 rfl dX12_bounds_117 ?_
    refine v_imulN g26 dX12_bounds_118 ?_
    refine v_iload (i := 4) 2 rfl dX12_bounds_119 ?_
    refine v_iaddN g27 dX12_bounds_121 ?_
    refine v_aload_n (f := 0) 0 rfl dX12_bounds_122 ?_
    refine v_getR (kf := 31) (kz := 31) rfl kd_11 rfl ⟨by decide, by decide⟩ rfl wf_12_67 dX12_bounds_123 ?_
    refine v_sipush ⟨by decide, by decide⟩ (by decide) dX12_bounds_126 ?_
    refine v_iload (i := 4) 2 rfl dX12_bounds_129 ?_
    refine v_iaddN g28 dX12_bounds_131 ?_
    refine v_iaload kd_179 g29 (by decide) dX12_bounds_132 ?_
    refine v_iastore kd_179 g30 (by decide) dX12_bounds_133 ?_
    replace h := b_wp_l h
    obtain ⟨g32, h⟩ := b_wp_g h
    refine v_iincN (ls' := [(4, bI _), (0, bR _), (1, bI _)]) 2 rfl (by decide) g32 dX12_bounds_134 rfl ?_
    refine v_goto (tgt := 81) dX12_bounds_137 (by decide) ?_
    refine v_sub (ls2 := [(0, bR _), (1, bI _), (4, bI _)]) [1, 2, 0] rfl ?_
    exact h
theorem l_X12_bounds_81 {l : Launch} {E : bE} {Q : (Int × bM) → Prop} {v1 : Int} (hfg : b_fg E) {s : Int × bM} (h : b_wp (b_loop (fun t => F_X12_bounds_s81 v1 t.1 t.2) s) (X_X12_bounds_81 l E Q v1)) : A_X12_bounds_81 l E Q v1 s := b_loop_wp (fun t h => t_X12_bounds_s81 hfg h) s h
noncomputable def F_X12_bounds_b140 (M : bM) : Option (Int × bM) :=
  some ((M 11 32), M)
theorem t_X12_bounds_b140 {l : Launch} {E : bE} {Q : (Int × bM) → Prop} {M : bM} (hfg : b_fg E) (h : b_wp (F_X12_bounds_b140 M) (Q)) : V l E xX12_bounds (0, 0) 140 [(0, bR 11)] [] M (b_pI Q) := by
  unfold F_X12_bounds_b140 at h
  refine v_aload_n (f := 0) 0 rfl dX12_bounds_140 ?_
  refine v_getI (kf := 32) (kz := 32) rfl kd_11 rfl ⟨by decide, by decide⟩ rfl wf_12_392 dX12_bounds_141 ?_
  refine v_ireturn rfl dX12_bounds_144 ⟨by decide, by decide⟩ ?_
  exact ⟨_, rfl, h⟩
noncomputable def F_X12_bounds (v1 : Int) (v2 : Int) (v3 : Int) (M : bM) : Option (Int × bM) :=
  b_bind (F_X12_take M) (fun M1 => b_bind (F_X12_isLot v1 M1) (fun x2 => if x2 = 0 then (some ((-2), M1)) else (b_bind (F_X12_in v2 0 99 M1) (fun x4 => if x4 = 0 then (some ((-2), M1)) else (b_bind (F_X12_in v3 0 99 M1) (fun x6 => if x6 = 0 then (some ((-2), M1)) else (b_let (b_up M1 11 8 0) (fun M8 => b_let (b_up M8 11 9 (-1)) (fun M9 => b_bind (F_X12_readBounds M9) (fun t => b_two t (fun x10 M11 => if x10 = 0 then (some ((-1), M11)) else (b_g (0 ≤ v1 ∧ v1 < 60) (b_let (b_up M11 175 v1 (M11 11 32)) (fun M14 => b_g (0 ≤ v1 ∧ v1 < 60) (b_let (b_up M14 176 v1 v2) (fun M16 => b_g (0 ≤ v1 ∧ v1 < 60) (b_let (b_up M16 177 v1 v3) (fun M18 => b_bind (b_loop (fun t => F_X12_bounds_s81 v1 t.1 t.2) (0, M18)) (fun t => F_X12_bounds_b140 t)))))))))))))))))))
theorem t_X12_bounds {l : Launch} {E : bE} {Q : (Int × bM) → Prop} {v1 : Int} {v2 : Int} {v3 : Int} {M : bM} (hfg : b_fg E) (h : b_wp (F_X12_bounds v1 v2 v3 M) (Q)) : V l E xX12_bounds (0, 0) 0 [(0, bR 11), (1, bI v1), (2, bI v2), (3, bI v3)] [] M (b_pI Q) := by
  unfold F_X12_bounds at h
  refine v_aload_n (f := 0) 0 rfl dX12_bounds_0 ?_
  refine v_cVV (nA := 0) (As := []) (ix := 395) (cf_X12_take hfg (b_wp_b h)) rfl kd_11 rfl rfl wc_X12_take wm_12_395 wi_X12_take ws_X12_take wn_12 ⟨by decide, by decide, by decide⟩ rfl ⟨by decide, by decide⟩ ⟨by decide, by decide⟩ (Nat.le_of_ble_eq_true rfl) dX12_bounds_1 (fun M1 h => ?_)
  refine v_aload_n (f := 0) 0 rfl dX12_bounds_4 ?_
  refine v_iload_n (f := 1) 1 rfl dX12_bounds_5 ?_
  refine v_cVIp (nA := 1) (As := [bI _]) (ix := 385) (cf_X12_isLot (b_wp_b h)) rfl kd_11 rfl rfl wc_X12_isLot wm_12_385 wi_X12_isLot ws_X12_isLot wn_12 ⟨by decide, by decide, by decide⟩ rfl ⟨by decide, by decide⟩ ⟨by decide, by decide⟩ (Nat.le_of_ble_eq_true rfl) dX12_bounds_6 (fun x2 h => ?_)
  refine v_if_eq (tgt := 32) dX12_bounds_9 (by decide) (fun c3 => ?_) (fun c3 => ?_)
  · replace h := b_wp_t c3 h
    refine v_bipush ⟨by decide, by decide⟩ (by decide) dX12_bounds_32 ?_
    refine v_ireturn rfl dX12_bounds_34 ⟨by decide, by decide⟩ ?_
    exact ⟨_, rfl, h⟩
  · replace h := b_wp_f c3 h
    refine v_iload_n (f := 2) 2 rfl dX12_bounds_12 ?_
    refine v_iconst ⟨by decide, by decide⟩ dX12_bounds_13 ?_
    refine v_bipush ⟨by decide, by decide⟩ (by decide) dX12_bounds_14 ?_
    refine v_cSIp (nA := 3) (As := [bI _, bI _, bI _]) (ix := 279) (cf_X12_in (b_wp_b h)) rfl wc_X12_in wm_12_279 wi_X12_in wn_12 ⟨by decide, by decide, by decide⟩ rfl ⟨by decide, by decide⟩ ⟨by decide, by decide⟩ (Nat.le_of_ble_eq_true rfl) dX12_bounds_16 (fun x4 h => ?_)
    refine v_if_eq (tgt := 32) dX12_bounds_19 (by decide) (fun c5 => ?_) (fun c5 => ?_)
    · replace h := b_wp_t c5 h
      refine v_bipush ⟨by decide, by decide⟩ (by decide) dX12_bounds_32 ?_
      refine v_ireturn rfl dX12_bounds_34 ⟨by decide, by decide⟩ ?_
      exact ⟨_, rfl, h⟩
    · replace h := b_wp_f c5 h
      refine v_iload_n (f := 3) 3 rfl dX12_bounds_22 ?_
      refine v_iconst ⟨by decide, by decide⟩ dX12_bounds_23 ?_
      refine v_bipush ⟨by decide, by decide⟩ (by decide) dX12_bounds_24 ?_
      refine v_cSIp (nA := 3) (As := [bI _, bI _, bI _]) (ix := 279) (cf_X12_in (b_wp_b h)) rfl wc_X12_in wm_12_279 wi_X12_in wn_12 ⟨by decide, by decide, by decide⟩ rfl ⟨by decide, by decide⟩ ⟨by decide, by decide⟩ (Nat.le_of_ble_eq_true rfl) dX12_bounds_26 (fun x6 h => ?_)
      refine v_if_ne (tgt := 35) dX12_bounds_29 (by decide) (fun c7 => ?_) (fun c7 => ?_)
      · replace h := b_wp_f c7 h
        refine v_aload_n (f := 0) 0 rfl dX12_bounds_35 ?_
        refine v_iconst ⟨by decide, by decide⟩ dX12_bounds_36 ?_
        refine v_putI (kf := 8) (kz := 8) rfl kd_11 rfl ⟨by decide, by decide⟩ rfl wf_12_341 rfl rfl dX12_bounds_37 ?_
        replace h := b_wp_l h
        refine v_aload_n (f := 0) 0 rfl dX12_bounds_40 ?_
        refine v_iconst ⟨by decide, by decide⟩ dX12_bounds_41 ?_
        refine v_putI (kf := 9) (kz := 9) rfl kd_11 rfl ⟨by decide, by decide⟩ rfl wf_12_13 rfl rfl dX12_bounds_42 ?_
        replace h := b_wp_l h
        refine v_aload_n (f := 0) 0 rfl dX12_bounds_45 ?_
        refine v_cVI (nA := 0) (As := []) (ix := 398) (cf_X12_readBounds hfg (b_wp_b h)) rfl kd_11 rfl rfl wc_X12_readBounds wm_12_398 wi_X12_readBounds ws_X12_readBounds wn_12 ⟨by decide, by decide, by decide⟩ rfl ⟨by decide, by decide⟩ ⟨by decide, by decide⟩ (Nat.le_of_ble_eq_true rfl) dX12_bounds_46 (fun x10 M11 h => ?_)
        replace h := b_wp_two h
        refine v_if_ne (tgt := 54) dX12_bounds_49 (by decide) (fun c12 => ?_) (fun c12 => ?_)
        · replace h := b_wp_f c12 h
          obtain ⟨g13, h⟩ := b_wp_g h
          refine v_aload_n (f := 0) 0 rfl dX12_bounds_54 ?_
          refine v_getR (kf := 27) (kz := 27) rfl kd_11 rfl ⟨by decide, by decide⟩ rfl wf_12_55 dX12_bounds_55 ?_
          refine v_iload_n (f := 1) 1 rfl dX12_bounds_58 ?_
          refine v_aload_n (f := 0) 0 rfl dX12_bounds_59 ?_
          refine v_getI (kf := 32) (kz := 32) rfl kd_11 rfl ⟨by decide, by decide⟩ rfl wf_12_392 dX12_bounds_60 ?_
          refine v_iastore kd_175 g13 (by decide) dX12_bounds_63 ?_
          replace h := b_wp_l h
          obtain ⟨g15, h⟩ := b_wp_g h
          refine v_aload_n (f := 0) 0 rfl dX12_bounds_64 ?_
          refine v_getR (kf := 28) (kz := 28) rfl kd_11 rfl ⟨by decide, by decide⟩ rfl wf_12_58 dX12_bounds_65 ?_
          refine v_iload_n (f := 1) 1 rfl dX12_bounds_68 ?_
          refine v_iload_n (f := 2) 2 rfl dX12_bounds_69 ?_
          refine v_iastore kd_176 g15 (by decide) dX12_bounds_70 ?_
          replace h := b_wp_l h
          obtain ⟨g17, h⟩ := b_wp_g h
          refine v_aload_n (f := 0) 0 rfl dX12_bounds_71 ?_
          refine v_getR (kf := 29) (kz := 29) rfl kd_11 rfl ⟨by decide, by decide⟩ rfl wf_12_61 dX12_bounds_72 ?_
          refine v_iload_n (f := 1) 1 rfl dX12_bounds_75 ?_
          refine v_iload_n (f := 3) 3 rfl dX12_bounds_76 ?_
          refine v_iastore kd_177 g17 (by decide) dX12_bounds_77 ?_
          replace h := b_wp_l h
          refine v_iconst ⟨by decide, by decide⟩ dX12_bounds_78 ?_
          refine v_istore (i := 4) (ls' := [(4, bI _), (0, bR _), (1, bI _), (2, bI _), (3, bI _)]) (by decide) dX12_bounds_79 rfl ?_
          refine v_sub (ls2 := [(0, bR _), (1, bI _), (4, bI _)]) [1, 2, 0] rfl ?_
          refine l_X12_bounds_81 hfg (b_wp_m (fun t h => ?_) (b_wp_b h))
          show V l E xX12_bounds (0, 0) 140 [(0, bR 11)] [] _ (b_pI Q)
          exact t_X12_bounds_b140 hfg h
        · replace h := b_wp_t c12 h
          refine v_iconst ⟨by decide, by decide⟩ dX12_bounds_52 ?_
          refine v_ireturn rfl dX12_bounds_53 ⟨by decide, by decide⟩ ?_
          exact ⟨_, rfl, h⟩
      · replace h := b_wp_t c7 h
        refine v_bipush ⟨by decide, by decide⟩ (by decide) dX12_bounds_32 ?_
        refine v_ireturn rfl dX12_bounds_34 ⟨by decide, by decide⟩ ?_
        exact ⟨_, rfl, h⟩
theorem cf_X12_bounds {l : Launch} {E : bE} {M : bM} {v1 : Int} {v2 : Int} {v3 : Int} (hfg : b_fg E) {Q : (Int × bM) → Prop} (h : b_wp (F_X12_bounds v1 v2 v3 M) Q) : b_C l E xX12_bounds yX12_bounds [bR 11, bI v1, bI v2, bI v3] M (b_pI Q) := b_met (by decide) ⟨rfl, rfl⟩ (Nat.le_of_ble_eq_true rfl) (fun _ _ => t_X12_bounds hfg h)
abbrev xX12_leads : bX := ("BurntHallModel", prog_14_method_40_code, 5, (Option.some Jvm.ClassFile.FieldType.int), b_rm 1 0 0, 0, "leads")
abbrev yX12_leads : MethodName := ⟨"BurntHallModel", "leads", "(II)I"⟩
theorem dX12_leads_0 : decode prog_14_method_40_code 0 = .ok (.iconst 0, 1) := by decide +kernel
theorem dX12_leads_1 : decode prog_14_method_40_code 1 = .ok (.istore_n 3, 1) := by decide +kernel
theorem dX12_leads_2 : decode prog_14_method_40_code 2 = .ok (.bipush 12, 2) := by decide +kernel
theorem dX12_leads_4 : decode prog_14_method_40_code 4 = .ok (.iload_n 1, 1) := by decide +kernel
theorem dX12_leads_5 : decode prog_14_method_40_code 5 = .ok (.imul, 1) := by decide +kernel
theorem dX12_leads_6 : decode prog_14_method_40_code 6 = .ok (.istore 4, 2) := by decide +kernel
theorem dX12_leads_8 : decode prog_14_method_40_code 8 = .ok (.iload 4, 2) := by decide +kernel
theorem dX12_leads_10 : decode prog_14_method_40_code 10 = .ok (.bipush 12, 2) := by decide +kernel
theorem dX12_leads_12 : decode prog_14_method_40_code 12 = .ok (.iload_n 1, 1) := by decide +kernel
theorem dX12_leads_13 : decode prog_14_method_40_code 13 = .ok (.imul, 1) := by decide +kernel
theorem dX12_leads_14 : decode prog_14_method_40_code 14 = .ok (.aload_n 0, 1) := by decide +kernel
theorem dX12_leads_15 : decode prog_14_method_40_code 15 = .ok (.getfield 55, 3) := by decide +kernel
theorem dX12_leads_18 : decode prog_14_method_40_code 18 = .ok (.iload_n 1, 1) := by decide +kernel
theorem dX12_leads_19 : decode prog_14_method_40_code 19 = .ok (.iaload, 1) := by decide +kernel
theorem dX12_leads_20 : decode prog_14_method_40_code 20 = .ok (.iadd, 1) := by decide +kernel
theorem dX12_leads_21 : decode prog_14_method_40_code 21 = .ok (.if_icmp .ge 58, 3) := by decide +kernel
theorem dX12_leads_24 : decode prog_14_method_40_code 24 = .ok (.iload_n 3, 1) := by decide +kernel
theorem dX12_leads_25 : decode prog_14_method_40_code 25 = .ok (.aload_n 0, 1) := by decide +kernel
theorem dX12_leads_26 : decode prog_14_method_40_code 26 = .ok (.getfield 64, 3) := by decide +kernel
theorem dX12_leads_29 : decode prog_14_method_40_code 29 = .ok (.iload 4, 2) := by decide +kernel
theorem dX12_leads_31 : decode prog_14_method_40_code 31 = .ok (.iaload, 1) := by decide +kernel
theorem dX12_leads_32 : decode prog_14_method_40_code 32 = .ok (.iload_n 2, 1) := by decide +kernel
theorem dX12_leads_33 : decode prog_14_method_40_code 33 = .ok (.if_icmp .ne 13, 3) := by decide +kernel
theorem dX12_leads_36 : decode prog_14_method_40_code 36 = .ok (.aload_n 0, 1) := by decide +kernel
theorem dX12_leads_37 : decode prog_14_method_40_code 37 = .ok (.getfield 67, 3) := by decide +kernel
theorem dX12_leads_40 : decode prog_14_method_40_code 40 = .ok (.iload 4, 2) := by decide +kernel
theorem dX12_leads_42 : decode prog_14_method_40_code 42 = .ok (.iaload, 1) := by decide +kernel
theorem dX12_leads_43 : decode prog_14_method_40_code 43 = .ok (.goto 28, 3) := by decide +kernel
theorem dX12_leads_46 : decode prog_14_method_40_code 46 = .ok (.aload_n 0, 1) := by decide +kernel
theorem dX12_leads_47 : decode prog_14_method_40_code 47 = .ok (.getfield 64, 3) := by decide +kernel
theorem dX12_leads_50 : decode prog_14_method_40_code 50 = .ok (.iload 4, 2) := by decide +kernel
theorem dX12_leads_52 : decode prog_14_method_40_code 52 = .ok (.iaload, 1) := by decide +kernel
theorem dX12_leads_53 : decode prog_14_method_40_code 53 = .ok (.iload_n 2, 1) := by decide +kernel
theorem dX12_leads_54 : decode prog_14_method_40_code 54 = .ok (.iconst 2, 1) := by decide +kernel
theorem dX12_leads_55 : decode prog_14_method_40_code 55 = .ok (.iadd, 1) := by decide +kernel
theorem dX12_leads_56 : decode prog_14_method_40_code 56 = .ok (.if_icmp .ne 14, 3) := by decide +kernel
theorem dX12_leads_59 : decode prog_14_method_40_code 59 = .ok (.aload_n 0, 1) := by decide +kernel
theorem dX12_leads_60 : decode prog_14_method_40_code 60 = .ok (.getfield 67, 3) := by decide +kernel
theorem dX12_leads_63 : decode prog_14_method_40_code 63 = .ok (.iload 4, 2) := by decide +kernel
theorem dX12_leads_65 : decode prog_14_method_40_code 65 = .ok (.iaload, 1) := by decide +kernel
theorem dX12_leads_66 : decode prog_14_method_40_code 66 = .ok (.ineg, 1) := by decide +kernel
theorem dX12_leads_67 : decode prog_14_method_40_code 67 = .ok (.goto 4, 3) := by decide +kernel
theorem dX12_leads_70 : decode prog_14_method_40_code 70 = .ok (.iconst 0, 1) := by decide +kernel
theorem dX12_leads_71 : decode prog_14_method_40_code 71 = .ok (.iadd, 1) := by decide +kernel
theorem dX12_leads_72 : decode prog_14_method_40_code 72 = .ok (.istore_n 3, 1) := by decide +kernel
theorem dX12_leads_73 : decode prog_14_method_40_code 73 = .ok (.iinc 4 1, 3) := by decide +kernel
theorem dX12_leads_76 : decode prog_14_method_40_code 76 = .ok (.goto (-68), 3) := by decide +kernel
theorem dX12_leads_79 : decode prog_14_method_40_code 79 = .ok (.iload_n 3, 1) := by decide +kernel
theorem dX12_leads_80 : decode prog_14_method_40_code 80 = .ok (.ireturn, 1) := by decide +kernel
abbrev A_X12_leads_8 (l : Launch) (E : bE) (Q : Int → Prop) (v1 : Int) (v2 : Int) (M : bM) : (Int × Int) → Prop := (fun t : Int × Int => V l E xX12_leads (0, 0) 8 [(0, bR 11), (1, bI v1), (2, bI v2), (3, bI (t.1)), (4, bI (t.2))] [] M (b_pIp M Q))
abbrev X_X12_leads_8 (l : Launch) (E : bE) (Q : Int → Prop) (v1 : Int) (v2 : Int) (M : bM) : (Int) → Prop := (fun t : Int => V l E xX12_leads (0, 0) 79 [(3, bI t)] [] M (b_pIp M Q))
noncomputable def F_X12_leads_b71 (v1 : Int) (v2 : Int) (v4 : Int) (u0 : Int) (u1 : Int) (M : bM) : Option ((Int × Int) ⊕ (Int)) :=
  b_g ((b_i32 (u0 + u1)) ∧ (b_i32 (v4 + 1))) (some (.inl ((u0 + u1), (v4 + 1))))
theorem t_X12_leads_b71 {l : Launch} {E : bE} {Q : Int → Prop} {v1 : Int} {v2 : Int} {v4 : Int} {u0 : Int} {u1 : Int} {M : bM} (h : b_wp (F_X12_leads_b71 v1 v2 v4 u0 u1 M) (Sum.elim (A_X12_leads_8 l E Q v1 v2 M) (X_X12_leads_8 l E Q v1 v2 M))) : V l E xX12_leads (0, 0) 71 [(0, bR 11), (1, bI v1), (2, bI v2), (4, bI v4)] [bI u1, bI u0] M (b_pIp M Q) := by
  unfold F_X12_leads_b71 at h
  obtain ⟨⟨g11, g12⟩, h⟩ := b_wp_g h
  refine v_iaddN g11 dX12_leads_71 ?_
  refine v_istore_n (g := 3) (i := 3) (ls' := [(3, bI _), (0, bR _), (1, bI _), (2, bI _), (4, bI _)]) rfl (by decide) dX12_leads_72 rfl ?_
  refine v_iincN (ls' := [(4, bI _), (3, bI _), (0, bR _), (1, bI _), (2, bI _)]) 4 rfl (by decide) g12 dX12_leads_73 rfl ?_
  refine v_goto (tgt := 8) dX12_leads_76 (by decide) ?_
  refine v_sub (ls2 := [(0, bR _), (1, bI _), (2, bI _), (3, bI _), (4, bI _)]) [2, 3, 4, 1, 0] rfl ?_
  exact h
noncomputable def F_X12_leads_s8 (v1 : Int) (v2 : Int) (v3 : Int) (v4 : Int) (M : bM) : Option ((Int × Int) ⊕ (Int)) :=
  b_g ((b_i32 (12 * v1)) ∧ (0 ≤ v1 ∧ v1 < 60) ∧ (b_i32 ((12 * v1) + (M 175 v1)))) (if ((12 * v1) + (M 175 v1)) ≤ v4 then (some (.inr (v3))) else (b_g (0 ≤ v4 ∧ v4 < 732) (if (M 178 v4) = v2 then (b_g (0 ≤ v4 ∧ v4 < 732) (F_X12_leads_b71 v1 v2 v4 v3 (M 179 v4) M)) else (b_g ((0 ≤ v4 ∧ v4 < 732) ∧ (b_i32 (v2 + 2))) (if (M 178 v4) = (v2 + 2) then (b_g ((0 ≤ v4 ∧ v4 < 732) ∧ (b_i32 (-(M 179 v4)))) (F_X12_leads_b71 v1 v2 v4 v3 (-(M 179 v4)) M)) else (F_X12_leads_b71 v1 v2 v4 v3 0 M))))))
theorem t_X12_leads_s8 {l : Launch} {E : bE} {Q : Int → Prop} {v1 : Int} {v2 : Int} {v3 : Int} {v4 : Int} {M : bM} (h : b_wp (F_X12_leads_s8 v1 v2 v3 v4 M) (Sum.elim (A_X12_leads_8 l E Q v1 v2 M) (X_X12_leads_8 l E Q v1 v2 M))) : V l E xX12_leads (0, 0) 8 [(0, bR 11), (1, bI v1), (2, bI v2), (3, bI v3), (4, bI v4)] [] M (b_pIp M Q) := by
  unfold F_X12_leads_s8 at h
  obtain ⟨⟨g2, g3, g4⟩, h⟩ := b_wp_g h
  refine v_iload (i := 4) 4 rfl dX12_leads_8 ?_
  refine v_bipush ⟨by decide, by decide⟩ (by decide) dX12_leads_10 ?_
  refine v_iload_n (f := 1) 1 rfl dX12_leads_12 ?_
  refine v_imulN g2 dX12_leads_13 ?_
  refine v_aload_n (f := 0) 0 rfl dX12_leads_14 ?_
  refine v_getR (kf := 27) (kz := 27) rfl kd_11 rfl ⟨by decide, by decide⟩ rfl wf_12_55 dX12_leads_15 ?_
  refine v_iload_n (f := 1) 1 rfl dX12_leads_18 ?_
  refine v_iaload kd_175 g3 (by decide) dX12_leads_19 ?_
  refine v_iaddN g4 dX12_leads_20 ?_
  refine v_icmp_ge (tgt := 79) dX12_leads_21 (by decide) (fun c5 => ?_) (fun c5 => ?_)
  · replace h := b_wp_t c5 h
    refine v_sub (ls2 := [(3, bI _)]) [3] rfl ?_
    exact h
  · replace h := b_wp_f c5 h
    obtain ⟨g6, h⟩ := b_wp_g h
    refine v_iload_n (f := 3) 3 rfl dX12_leads_24 ?_
    refine v_aload_n (f := 0) 0 rfl dX12_leads_25 ?_
    refine v_getR (kf := 30) (kz := 30) rfl kd_11 rfl ⟨by decide, by decide⟩ rfl wf_12_64 dX12_leads_26 ?_
    refine v_iload (i := 4) 4 rfl dX12_leads_29 ?_
    refine v_iaload kd_178 g6 (by decide) dX12_leads_31 ?_
    refine v_iload_n (f := 2) 2 rfl dX12_leads_32 ?_
    refine v_icmp_ne (tgt := 46) dX12_leads_33 (by decide) (fun c7 => ?_) (fun c7 => ?_)
    · replace h := b_wp_f c7 h
      obtain ⟨⟨g8, g9⟩, h⟩ := b_wp_g h
      refine v_aload_n (f := 0) 0 rfl dX12_leads_46 ?_
      refine v_getR (kf := 30) (kz := 30) rfl kd_11 rfl ⟨by decide, by decide⟩ rfl wf_12_64 dX12_leads_47 ?_
      refine v_iload (i := 4) 4 rfl dX12_leads_50 ?_
      refine v_iaload kd_178 g8 (by decide) dX12_leads_52 ?_
      refine v_iload_n (f := 2) 2 rfl dX12_leads_53 ?_
      refine v_iconst ⟨by decide, by decide⟩ dX12_leads_54 ?_
      refine v_iaddN g9 dX12_leads_55 ?_
      refine v_icmp_ne (tgt := 70) dX12_leads_56 (by decide) (fun c10 => ?_) (fun c10 => ?_)
      · replace h := b_wp_f c10 h
        refine v_iconst ⟨by decide, by decide⟩ dX12_leads_70 ?_
        refine v_sub (ls2 := [(0, bR _), (1, bI _), (2, bI _), (4, bI _)]) [0, 1, 2, 4] rfl ?_
        exact t_X12_leads_b71 h
      · replace h := b_wp_t c10 h
        obtain ⟨⟨g13, g14⟩, h⟩ := b_wp_g h
        refine v_aload_n (f := 0) 0 rfl dX12_leads_59 ?_
        refine v_getR (kf := 31) (kz := 31) rfl kd_11 rfl ⟨by decide, by decide⟩ rfl wf_12_67 dX12_leads_60 ?_
        refine v_iload (i := 4) 4 rfl dX12_leads_63 ?_
        refine v_iaload kd_179 g13 (by decide) dX12_leads_65 ?_
        refine v_inegN g14 dX12_leads_66 ?_
        refine v_goto (tgt := 71) dX12_leads_67 (by decide) ?_
        refine v_sub (ls2 := [(0, bR _), (1, bI _), (2, bI _), (4, bI _)]) [0, 1, 2, 4] rfl ?_
        exact t_X12_leads_b71 h
    · replace h := b_wp_t c7 h
      obtain ⟨g15, h⟩ := b_wp_g h
      refine v_aload_n (f := 0) 0 rfl dX12_leads_36 ?_
      refine v_getR (kf := 31) (kz := 31) rfl kd_11 rfl ⟨by decide, by decide⟩ rfl wf_12_67 dX12_leads_37 ?_
      refine v_iload (i := 4) 4 rfl dX12_leads_40 ?_
      refine v_iaload kd_179 g15 (by decide) dX12_leads_42 ?_
      refine v_goto (tgt := 71) dX12_leads_43 (by decide) ?_
      refine v_sub (ls2 := [(0, bR _), (1, bI _), (2, bI _), (4, bI _)]) [0, 1, 2, 4] rfl ?_
      exact t_X12_leads_b71 h
theorem l_X12_leads_8 {l : Launch} {E : bE} {Q : Int → Prop} {v1 : Int} {v2 : Int} {M : bM} {s : Int × Int} (h : b_wp (b_loop (fun t => F_X12_leads_s8 v1 v2 t.1 t.2 M) s) (X_X12_leads_8 l E Q v1 v2 M)) : A_X12_leads_8 l E Q v1 v2 M s := b_loop_wp (fun t h => t_X12_leads_s8 h) s h
noncomputable def F_X12_leads_b79 (v3 : Int) (M : bM) : Option (Int) :=
  some v3
theorem t_X12_leads_b79 {l : Launch} {E : bE} {Q : Int → Prop} {v3 : Int} {M : bM} (h : b_wp (F_X12_leads_b79 v3 M) (Q)) : V l E xX12_leads (0, 0) 79 [(3, bI v3)] [] M (b_pIp M Q) := by
  unfold F_X12_leads_b79 at h
  refine v_iload_n (f := 3) 0 rfl dX12_leads_79 ?_
  refine v_ireturn rfl dX12_leads_80 ⟨by decide, by decide⟩ ?_
  exact ⟨_, rfl, rfl, h⟩
noncomputable def F_X12_leads (v1 : Int) (v2 : Int) (M : bM) : Option (Int) :=
  b_g (b_i32 (12 * v1)) (b_bind (b_loop (fun t => F_X12_leads_s8 v1 v2 t.1 t.2 M) (0, (12 * v1))) (fun t => F_X12_leads_b79 t M))
theorem t_X12_leads {l : Launch} {E : bE} {Q : Int → Prop} {v1 : Int} {v2 : Int} {M : bM} (h : b_wp (F_X12_leads v1 v2 M) (Q)) : V l E xX12_leads (0, 0) 0 [(0, bR 11), (1, bI v1), (2, bI v2)] [] M (b_pIp M Q) := by
  unfold F_X12_leads at h
  obtain ⟨g1, h⟩ := b_wp_g h
  refine v_iconst ⟨by decide, by decide⟩ dX12_leads_0 ?_
  refine v_istore_n (g := 3) (i := 3) (ls' := [(3, bI _), (0, bR _), (1, bI _), (2, bI _)]) rfl (by decide) dX12_leads_1 rfl ?_
  refine v_bipush ⟨by decide, by decide⟩ (by decide) dX12_leads_2 ?_
  refine v_iload_n (f := 1) 2 rfl dX12_leads_4 ?_
  refine v_imulN g1 dX12_leads_5 ?_
  refine v_istore (i := 4) (ls' := [(4, bI _), (3, bI _), (0, bR _), (1, bI _), (2, bI _)]) (by decide) dX12_leads_6 rfl ?_
  refine v_sub (ls2 := [(0, bR _), (1, bI _), (2, bI _), (3, bI _), (4, bI _)]) [2, 3, 4, 1, 0] rfl ?_
  refine l_X12_leads_8 (b_wp_m (fun t h => ?_) (b_wp_b h))
  show V l E xX12_leads (0, 0) 79 [(3, bI _)] [] _ (b_pIp M Q)
  exact t_X12_leads_b79 h
theorem cf_X12_leads {l : Launch} {E : bE} {M : bM} {v1 : Int} {v2 : Int} {Q : Int → Prop} (h : b_wp (F_X12_leads v1 v2 M) Q) : b_C l E xX12_leads yX12_leads [bR 11, bI v1, bI v2] M (b_pIp M Q) := b_met (by decide) ⟨rfl, rfl⟩ (Nat.le_of_ble_eq_true rfl) (fun _ _ => t_X12_leads h)
abbrev xX12_bad : bX := ("BurntHallModel", prog_14_method_41_code, 2, (Option.some Jvm.ClassFile.FieldType.int), b_rm 3 0 0, 0, "bad")
abbrev yX12_bad : MethodName := ⟨"BurntHallModel", "bad", "(I)I"⟩
theorem dX12_bad_0 : decode prog_14_method_41_code 0 = .ok (.aload_n 0, 1) := by decide +kernel
theorem dX12_bad_1 : decode prog_14_method_41_code 1 = .ok (.iload_n 1, 1) := by decide +kernel
theorem dX12_bad_2 : decode prog_14_method_41_code 2 = .ok (.invokevirtual 385, 3) := by decide +kernel
theorem dX12_bad_5 : decode prog_14_method_41_code 5 = .ok (.ifCond .ne 8, 3) := by decide +kernel
theorem dX12_bad_8 : decode prog_14_method_41_code 8 = .ok (.bipush (-2), 2) := by decide +kernel
theorem dX12_bad_10 : decode prog_14_method_41_code 10 = .ok (.goto 18, 3) := by decide +kernel
theorem dX12_bad_13 : decode prog_14_method_41_code 13 = .ok (.aload_n 0, 1) := by decide +kernel
theorem dX12_bad_14 : decode prog_14_method_41_code 14 = .ok (.getfield 55, 3) := by decide +kernel
theorem dX12_bad_17 : decode prog_14_method_41_code 17 = .ok (.iload_n 1, 1) := by decide +kernel
theorem dX12_bad_18 : decode prog_14_method_41_code 18 = .ok (.iaload, 1) := by decide +kernel
theorem dX12_bad_19 : decode prog_14_method_41_code 19 = .ok (.ifCond .ne 8, 3) := by decide +kernel
theorem dX12_bad_22 : decode prog_14_method_41_code 22 = .ok (.bipush (-4), 2) := by decide +kernel
theorem dX12_bad_24 : decode prog_14_method_41_code 24 = .ok (.goto 4, 3) := by decide +kernel
theorem dX12_bad_27 : decode prog_14_method_41_code 27 = .ok (.iconst 0, 1) := by decide +kernel
theorem dX12_bad_28 : decode prog_14_method_41_code 28 = .ok (.ireturn, 1) := by decide +kernel
noncomputable def F_X12_bad (v1 : Int) (M : bM) : Option (Int) :=
  b_bind (F_X12_isLot v1 M) (fun x1 => if x1 = 0 then (some (-2)) else (b_g (0 ≤ v1 ∧ v1 < 60) (if (M 175 v1) = 0 then (some (-4)) else (some 0))))
theorem t_X12_bad {l : Launch} {E : bE} {Q : Int → Prop} {v1 : Int} {M : bM} (h : b_wp (F_X12_bad v1 M) (Q)) : V l E xX12_bad (0, 0) 0 [(0, bR 11), (1, bI v1)] [] M (b_pIp M Q) := by
  unfold F_X12_bad at h
  refine v_aload_n (f := 0) 0 rfl dX12_bad_0 ?_
  refine v_iload_n (f := 1) 1 rfl dX12_bad_1 ?_
  refine v_cVIp (nA := 1) (As := [bI _]) (ix := 385) (cf_X12_isLot (b_wp_b h)) rfl kd_11 rfl rfl wc_X12_isLot wm_12_385 wi_X12_isLot ws_X12_isLot wn_12 ⟨by decide, by decide, by decide⟩ rfl ⟨by decide, by decide⟩ ⟨by decide, by decide⟩ (Nat.le_of_ble_eq_true rfl) dX12_bad_2 (fun x1 h => ?_)
  refine v_if_ne (tgt := 13) dX12_bad_5 (by decide) (fun c2 => ?_) (fun c2 => ?_)
  · replace h := b_wp_f c2 h
    obtain ⟨g3, h⟩ := b_wp_g h
    refine v_aload_n (f := 0) 0 rfl dX12_bad_13 ?_
    refine v_getR (kf := 27) (kz := 27) rfl kd_11 rfl ⟨by decide, by decide⟩ rfl wf_12_55 dX12_bad_14 ?_
    refine v_iload_n (f := 1) 1 rfl dX12_bad_17 ?_
    refine v_iaload kd_175 g3 (by decide) dX12_bad_18 ?_
    refine v_if_ne (tgt := 27) dX12_bad_19 (by decide) (fun c4 => ?_) (fun c4 => ?_)
    · replace h := b_wp_f c4 h
      refine v_iconst ⟨by decide, by decide⟩ dX12_bad_27 ?_
      refine v_ireturn rfl dX12_bad_28 ⟨by decide, by decide⟩ ?_
      exact ⟨_, rfl, rfl, h⟩
    · replace h := b_wp_t c4 h
      refine v_bipush ⟨by decide, by decide⟩ (by decide) dX12_bad_22 ?_
      refine v_goto (tgt := 28) dX12_bad_24 (by decide) ?_
      refine v_ireturn rfl dX12_bad_28 ⟨by decide, by decide⟩ ?_
      exact ⟨_, rfl, rfl, h⟩
  · replace h := b_wp_t c2 h
    refine v_bipush ⟨by decide, by decide⟩ (by decide) dX12_bad_8 ?_
    refine v_goto (tgt := 28) dX12_bad_10 (by decide) ?_
    refine v_ireturn rfl dX12_bad_28 ⟨by decide, by decide⟩ ?_
    exact ⟨_, rfl, rfl, h⟩
theorem cf_X12_bad {l : Launch} {E : bE} {M : bM} {v1 : Int} {Q : Int → Prop} (h : b_wp (F_X12_bad v1 M) Q) : b_C l E xX12_bad yX12_bad [bR 11, bI v1] M (b_pIp M Q) := b_met (by decide) ⟨rfl, rfl⟩ (Nat.le_of_ble_eq_true rfl) (fun _ _ => t_X12_bad h)
abbrev xX12_error : bX := ("BurntHallModel", prog_14_method_42_code, 4, (Option.some Jvm.ClassFile.FieldType.int), b_rm 4 0 0, 0, "error")
abbrev yX12_error : MethodName := ⟨"BurntHallModel", "error", "(I)I"⟩
theorem dX12_error_0 : decode prog_14_method_42_code 0 = .ok (.aload_n 0, 1) := by decide +kernel
theorem dX12_error_1 : decode prog_14_method_42_code 1 = .ok (.iload_n 1, 1) := by decide +kernel
theorem dX12_error_2 : decode prog_14_method_42_code 2 = .ok (.invokevirtual 402, 3) := by decide +kernel
theorem dX12_error_5 : decode prog_14_method_42_code 5 = .ok (.ifCond .eq 9, 3) := by decide +kernel
theorem dX12_error_8 : decode prog_14_method_42_code 8 = .ok (.aload_n 0, 1) := by decide +kernel
theorem dX12_error_9 : decode prog_14_method_42_code 9 = .ok (.iload_n 1, 1) := by decide +kernel
theorem dX12_error_10 : decode prog_14_method_42_code 10 = .ok (.invokevirtual 402, 3) := by decide +kernel
theorem dX12_error_13 : decode prog_14_method_42_code 13 = .ok (.ireturn, 1) := by decide +kernel
theorem dX12_error_14 : decode prog_14_method_42_code 14 = .ok (.aload_n 0, 1) := by decide +kernel
theorem dX12_error_15 : decode prog_14_method_42_code 15 = .ok (.iload_n 1, 1) := by decide +kernel
theorem dX12_error_16 : decode prog_14_method_42_code 16 = .ok (.iconst 1, 1) := by decide +kernel
theorem dX12_error_17 : decode prog_14_method_42_code 17 = .ok (.invokevirtual 405, 3) := by decide +kernel
theorem dX12_error_20 : decode prog_14_method_42_code 20 = .ok (.istore_n 2, 1) := by decide +kernel
theorem dX12_error_21 : decode prog_14_method_42_code 21 = .ok (.aload_n 0, 1) := by decide +kernel
theorem dX12_error_22 : decode prog_14_method_42_code 22 = .ok (.iload_n 1, 1) := by decide +kernel
theorem dX12_error_23 : decode prog_14_method_42_code 23 = .ok (.iconst 0, 1) := by decide +kernel
theorem dX12_error_24 : decode prog_14_method_42_code 24 = .ok (.invokevirtual 405, 3) := by decide +kernel
theorem dX12_error_27 : decode prog_14_method_42_code 27 = .ok (.istore_n 3, 1) := by decide +kernel
theorem dX12_error_28 : decode prog_14_method_42_code 28 = .ok (.iload_n 2, 1) := by decide +kernel
theorem dX12_error_29 : decode prog_14_method_42_code 29 = .ok (.ifCond .ge 8, 3) := by decide +kernel
theorem dX12_error_32 : decode prog_14_method_42_code 32 = .ok (.iload_n 2, 1) := by decide +kernel
theorem dX12_error_33 : decode prog_14_method_42_code 33 = .ok (.ineg, 1) := by decide +kernel
theorem dX12_error_34 : decode prog_14_method_42_code 34 = .ok (.goto 4, 3) := by decide +kernel
theorem dX12_error_37 : decode prog_14_method_42_code 37 = .ok (.iload_n 2, 1) := by decide +kernel
theorem dX12_error_38 : decode prog_14_method_42_code 38 = .ok (.iload_n 3, 1) := by decide +kernel
theorem dX12_error_39 : decode prog_14_method_42_code 39 = .ok (.ifCond .ge 8, 3) := by decide +kernel
theorem dX12_error_42 : decode prog_14_method_42_code 42 = .ok (.iload_n 3, 1) := by decide +kernel
theorem dX12_error_43 : decode prog_14_method_42_code 43 = .ok (.ineg, 1) := by decide +kernel
theorem dX12_error_44 : decode prog_14_method_42_code 44 = .ok (.goto 4, 3) := by decide +kernel
theorem dX12_error_47 : decode prog_14_method_42_code 47 = .ok (.iload_n 3, 1) := by decide +kernel
theorem dX12_error_48 : decode prog_14_method_42_code 48 = .ok (.iadd, 1) := by decide +kernel
theorem dX12_error_49 : decode prog_14_method_42_code 49 = .ok (.ireturn, 1) := by decide +kernel
noncomputable def F_X12_error_b48 (u0 : Int) (u1 : Int) (M : bM) : Option (Int) :=
  b_g (b_i32 (u0 + u1)) (some (u0 + u1))
theorem t_X12_error_b48 {l : Launch} {E : bE} {Q : Int → Prop} {u0 : Int} {u1 : Int} {M : bM} (h : b_wp (F_X12_error_b48 u0 u1 M) (Q)) : V l E xX12_error (0, 0) 48 [] [bI u1, bI u0] M (b_pIp M Q) := by
  unfold F_X12_error_b48 at h
  obtain ⟨g7, h⟩ := b_wp_g h
  refine v_iaddN g7 dX12_error_48 ?_
  refine v_ireturn rfl dX12_error_49 ⟨by decide, by decide⟩ ?_
  exact ⟨_, rfl, rfl, h⟩
noncomputable def F_X12_error_b38 (v3 : Int) (u0 : Int) (M : bM) : Option (Int) :=
  if 0 ≤ v3 then (F_X12_error_b48 u0 v3 M) else (b_g (b_i32 (-v3)) (F_X12_error_b48 u0 (-v3) M))
theorem t_X12_error_b38 {l : Launch} {E : bE} {Q : Int → Prop} {v3 : Int} {u0 : Int} {M : bM} (h : b_wp (F_X12_error_b38 v3 u0 M) (Q)) : V l E xX12_error (0, 0) 38 [(3, bI v3)] [bI u0] M (b_pIp M Q) := by
  unfold F_X12_error_b38 at h
  refine v_iload_n (f := 3) 0 rfl dX12_error_38 ?_
  refine v_if_ge (tgt := 47) dX12_error_39 (by decide) (fun c6 => ?_) (fun c6 => ?_)
  · replace h := b_wp_t c6 h
    refine v_iload_n (f := 3) 0 rfl dX12_error_47 ?_
    refine v_sub (ls2 := []) [] rfl ?_
    exact t_X12_error_b48 h
  · replace h := b_wp_f c6 h
    obtain ⟨g8, h⟩ := b_wp_g h
    refine v_iload_n (f := 3) 0 rfl dX12_error_42 ?_
    refine v_inegN g8 dX12_error_43 ?_
    refine v_goto (tgt := 48) dX12_error_44 (by decide) ?_
    refine v_sub (ls2 := []) [] rfl ?_
    exact t_X12_error_b48 h
noncomputable def F_X12_error (v1 : Int) (M : bM) : Option (Int) :=
  b_bind (F_X12_bad v1 M) (fun x1 => if x1 = 0 then (b_bind (F_X12_leads v1 1 M) (fun x3 => b_bind (F_X12_leads v1 0 M) (fun x4 => if 0 ≤ x3 then (F_X12_error_b38 x4 x3 M) else (b_g (b_i32 (-x3)) (F_X12_error_b38 x4 (-x3) M))))) else (b_bind (F_X12_bad v1 M) (fun x10 => some x10)))
theorem t_X12_error {l : Launch} {E : bE} {Q : Int → Prop} {v1 : Int} {M : bM} (h : b_wp (F_X12_error v1 M) (Q)) : V l E xX12_error (0, 0) 0 [(0, bR 11), (1, bI v1)] [] M (b_pIp M Q) := by
  unfold F_X12_error at h
  refine v_aload_n (f := 0) 0 rfl dX12_error_0 ?_
  refine v_iload_n (f := 1) 1 rfl dX12_error_1 ?_
  refine v_cVIp (nA := 1) (As := [bI _]) (ix := 402) (cf_X12_bad (b_wp_b h)) rfl kd_11 rfl rfl wc_X12_bad wm_12_402 wi_X12_bad ws_X12_bad wn_12 ⟨by decide, by decide, by decide⟩ rfl ⟨by decide, by decide⟩ ⟨by decide, by decide⟩ (Nat.le_of_ble_eq_true rfl) dX12_error_2 (fun x1 h => ?_)
  refine v_if_eq (tgt := 14) dX12_error_5 (by decide) (fun c2 => ?_) (fun c2 => ?_)
  · replace h := b_wp_t c2 h
    refine v_aload_n (f := 0) 0 rfl dX12_error_14 ?_
    refine v_iload_n (f := 1) 1 rfl dX12_error_15 ?_
    refine v_iconst ⟨by decide, by decide⟩ dX12_error_16 ?_
    refine v_cVIp (nA := 2) (As := [bI _, bI _]) (ix := 405) (cf_X12_leads (b_wp_b h)) rfl kd_11 rfl rfl wc_X12_leads wm_12_405 wi_X12_leads ws_X12_leads wn_12 ⟨by decide, by decide, by decide⟩ rfl ⟨by decide, by decide⟩ ⟨by decide, by decide⟩ (Nat.le_of_ble_eq_true rfl) dX12_error_17 (fun x3 h => ?_)
    refine v_istore_n (g := 2) (i := 2) (ls' := [(2, bI _), (0, bR _), (1, bI _)]) rfl (by decide) dX12_error_20 rfl ?_
    refine v_aload_n (f := 0) 1 rfl dX12_error_21 ?_
    refine v_iload_n (f := 1) 2 rfl dX12_error_22 ?_
    refine v_iconst ⟨by decide, by decide⟩ dX12_error_23 ?_
    refine v_cVIp (nA := 2) (As := [bI _, bI _]) (ix := 405) (cf_X12_leads (b_wp_b h)) rfl kd_11 rfl rfl wc_X12_leads wm_12_405 wi_X12_leads ws_X12_leads wn_12 ⟨by decide, by decide, by decide⟩ rfl ⟨by decide, by decide⟩ ⟨by decide, by decide⟩ (Nat.le_of_ble_eq_true rfl) dX12_error_24 (fun x4 h => ?_)
    refine v_istore_n (g := 3) (i := 3) (ls' := [(3, bI _), (2, bI _), (0, bR _), (1, bI _)]) rfl (by decide) dX12_error_27 rfl ?_
    refine v_iload_n (f := 2) 1 rfl dX12_error_28 ?_
    refine v_if_ge (tgt := 37) dX12_error_29 (by decide) (fun c5 => ?_) (fun c5 => ?_)
    · replace h := b_wp_t c5 h
      refine v_iload_n (f := 2) 1 rfl dX12_error_37 ?_
      refine v_sub (ls2 := [(3, bI _)]) [0] rfl ?_
      exact t_X12_error_b38 h
    · replace h := b_wp_f c5 h
      obtain ⟨g9, h⟩ := b_wp_g h
      refine v_iload_n (f := 2) 1 rfl dX12_error_32 ?_
      refine v_inegN g9 dX12_error_33 ?_
      refine v_goto (tgt := 38) dX12_error_34 (by decide) ?_
      refine v_sub (ls2 := [(3, bI _)]) [0] rfl ?_
      exact t_X12_error_b38 h
  · replace h := b_wp_f c2 h
    refine v_aload_n (f := 0) 0 rfl dX12_error_8 ?_
    refine v_iload_n (f := 1) 1 rfl dX12_error_9 ?_
    refine v_cVIp (nA := 1) (As := [bI _]) (ix := 402) (cf_X12_bad (b_wp_b h)) rfl kd_11 rfl rfl wc_X12_bad wm_12_402 wi_X12_bad ws_X12_bad wn_12 ⟨by decide, by decide, by decide⟩ rfl ⟨by decide, by decide⟩ ⟨by decide, by decide⟩ (Nat.le_of_ble_eq_true rfl) dX12_error_10 (fun x10 h => ?_)
    refine v_ireturn rfl dX12_error_13 ⟨by decide, by decide⟩ ?_
    exact ⟨_, rfl, rfl, h⟩
theorem cf_X12_error {l : Launch} {E : bE} {M : bM} {v1 : Int} {Q : Int → Prop} (h : b_wp (F_X12_error v1 M) Q) : b_C l E xX12_error yX12_error [bR 11, bI v1] M (b_pIp M Q) := b_met (by decide) ⟨rfl, rfl⟩ (Nat.le_of_ble_eq_true rfl) (fun _ _ => t_X12_error h)
abbrev xX12_mends : bX := ("BurntHallModel", prog_14_method_43_code, 9, (Option.some Jvm.ClassFile.FieldType.int), b_rm 2 0 0, 0, "mends")
abbrev yX12_mends : MethodName := ⟨"BurntHallModel", "mends", "(II)I"⟩
theorem dX12_mends_0 : decode prog_14_method_43_code 0 = .ok (.aload_n 0, 1) := by decide +kernel
theorem dX12_mends_1 : decode prog_14_method_43_code 1 = .ok (.iload_n 1, 1) := by decide +kernel
theorem dX12_mends_2 : decode prog_14_method_43_code 2 = .ok (.iload_n 2, 1) := by decide +kernel
theorem dX12_mends_3 : decode prog_14_method_43_code 3 = .ok (.invokevirtual 405, 3) := by decide +kernel
theorem dX12_mends_6 : decode prog_14_method_43_code 6 = .ok (.istore_n 3, 1) := by decide +kernel
theorem dX12_mends_7 : decode prog_14_method_43_code 7 = .ok (.iload_n 3, 1) := by decide +kernel
theorem dX12_mends_8 : decode prog_14_method_43_code 8 = .ok (.ifCond .le 7, 3) := by decide +kernel
theorem dX12_mends_11 : decode prog_14_method_43_code 11 = .ok (.iload_n 2, 1) := by decide +kernel
theorem dX12_mends_12 : decode prog_14_method_43_code 12 = .ok (.goto 6, 3) := by decide +kernel
theorem dX12_mends_15 : decode prog_14_method_43_code 15 = .ok (.iload_n 2, 1) := by decide +kernel
theorem dX12_mends_16 : decode prog_14_method_43_code 16 = .ok (.iconst 2, 1) := by decide +kernel
theorem dX12_mends_17 : decode prog_14_method_43_code 17 = .ok (.iadd, 1) := by decide +kernel
theorem dX12_mends_18 : decode prog_14_method_43_code 18 = .ok (.istore 4, 2) := by decide +kernel
theorem dX12_mends_20 : decode prog_14_method_43_code 20 = .ok (.iload_n 3, 1) := by decide +kernel
theorem dX12_mends_21 : decode prog_14_method_43_code 21 = .ok (.ifCond .ge 8, 3) := by decide +kernel
theorem dX12_mends_24 : decode prog_14_method_43_code 24 = .ok (.iload_n 3, 1) := by decide +kernel
theorem dX12_mends_25 : decode prog_14_method_43_code 25 = .ok (.ineg, 1) := by decide +kernel
theorem dX12_mends_26 : decode prog_14_method_43_code 26 = .ok (.goto 4, 3) := by decide +kernel
theorem dX12_mends_29 : decode prog_14_method_43_code 29 = .ok (.iload_n 3, 1) := by decide +kernel
theorem dX12_mends_30 : decode prog_14_method_43_code 30 = .ok (.istore 5, 2) := by decide +kernel
theorem dX12_mends_32 : decode prog_14_method_43_code 32 = .ok (.iconst (-1), 1) := by decide +kernel
theorem dX12_mends_33 : decode prog_14_method_43_code 33 = .ok (.istore 6, 2) := by decide +kernel
theorem dX12_mends_35 : decode prog_14_method_43_code 35 = .ok (.iconst 0, 1) := by decide +kernel
theorem dX12_mends_36 : decode prog_14_method_43_code 36 = .ok (.istore 7, 2) := by decide +kernel
theorem dX12_mends_38 : decode prog_14_method_43_code 38 = .ok (.bipush 12, 2) := by decide +kernel
theorem dX12_mends_40 : decode prog_14_method_43_code 40 = .ok (.iload_n 1, 1) := by decide +kernel
theorem dX12_mends_41 : decode prog_14_method_43_code 41 = .ok (.imul, 1) := by decide +kernel
theorem dX12_mends_42 : decode prog_14_method_43_code 42 = .ok (.istore 8, 2) := by decide +kernel
theorem dX12_mends_44 : decode prog_14_method_43_code 44 = .ok (.iload 8, 2) := by decide +kernel
theorem dX12_mends_46 : decode prog_14_method_43_code 46 = .ok (.bipush 12, 2) := by decide +kernel
theorem dX12_mends_48 : decode prog_14_method_43_code 48 = .ok (.iload_n 1, 1) := by decide +kernel
theorem dX12_mends_49 : decode prog_14_method_43_code 49 = .ok (.imul, 1) := by decide +kernel
theorem dX12_mends_50 : decode prog_14_method_43_code 50 = .ok (.aload_n 0, 1) := by decide +kernel
theorem dX12_mends_51 : decode prog_14_method_43_code 51 = .ok (.getfield 55, 3) := by decide +kernel
theorem dX12_mends_54 : decode prog_14_method_43_code 54 = .ok (.iload_n 1, 1) := by decide +kernel
theorem dX12_mends_55 : decode prog_14_method_43_code 55 = .ok (.iaload, 1) := by decide +kernel
theorem dX12_mends_56 : decode prog_14_method_43_code 56 = .ok (.iadd, 1) := by decide +kernel
theorem dX12_mends_57 : decode prog_14_method_43_code 57 = .ok (.if_icmp .ge 32, 3) := by decide +kernel
theorem dX12_mends_60 : decode prog_14_method_43_code 60 = .ok (.aload_n 0, 1) := by decide +kernel
theorem dX12_mends_61 : decode prog_14_method_43_code 61 = .ok (.getfield 64, 3) := by decide +kernel
theorem dX12_mends_64 : decode prog_14_method_43_code 64 = .ok (.iload 8, 2) := by decide +kernel
theorem dX12_mends_66 : decode prog_14_method_43_code 66 = .ok (.iaload, 1) := by decide +kernel
theorem dX12_mends_67 : decode prog_14_method_43_code 67 = .ok (.iload 4, 2) := by decide +kernel
theorem dX12_mends_69 : decode prog_14_method_43_code 69 = .ok (.iconst 2, 1) := by decide +kernel
theorem dX12_mends_70 : decode prog_14_method_43_code 70 = .ok (.iadd, 1) := by decide +kernel
theorem dX12_mends_71 : decode prog_14_method_43_code 71 = .ok (.iconst 4, 1) := by decide +kernel
theorem dX12_mends_72 : decode prog_14_method_43_code 72 = .ok (.irem, 1) := by decide +kernel
theorem dX12_mends_73 : decode prog_14_method_43_code 73 = .ok (.if_icmp .ne 10, 3) := by decide +kernel
theorem dX12_mends_76 : decode prog_14_method_43_code 76 = .ok (.iload 8, 2) := by decide +kernel
theorem dX12_mends_78 : decode prog_14_method_43_code 78 = .ok (.istore 6, 2) := by decide +kernel
theorem dX12_mends_80 : decode prog_14_method_43_code 80 = .ok (.iconst 1, 1) := by decide +kernel
theorem dX12_mends_81 : decode prog_14_method_43_code 81 = .ok (.istore 7, 2) := by decide +kernel
theorem dX12_mends_83 : decode prog_14_method_43_code 83 = .ok (.iinc 8 1, 3) := by decide +kernel
theorem dX12_mends_86 : decode prog_14_method_43_code 86 = .ok (.goto (-42), 3) := by decide +kernel
theorem dX12_mends_89 : decode prog_14_method_43_code 89 = .ok (.bipush 12, 2) := by decide +kernel
theorem dX12_mends_91 : decode prog_14_method_43_code 91 = .ok (.iload_n 1, 1) := by decide +kernel
theorem dX12_mends_92 : decode prog_14_method_43_code 92 = .ok (.imul, 1) := by decide +kernel
theorem dX12_mends_93 : decode prog_14_method_43_code 93 = .ok (.istore 8, 2) := by decide +kernel
theorem dX12_mends_95 : decode prog_14_method_43_code 95 = .ok (.iload 8, 2) := by decide +kernel
theorem dX12_mends_97 : decode prog_14_method_43_code 97 = .ok (.bipush 12, 2) := by decide +kernel
theorem dX12_mends_99 : decode prog_14_method_43_code 99 = .ok (.iload_n 1, 1) := by decide +kernel
theorem dX12_mends_100 : decode prog_14_method_43_code 100 = .ok (.imul, 1) := by decide +kernel
theorem dX12_mends_101 : decode prog_14_method_43_code 101 = .ok (.aload_n 0, 1) := by decide +kernel
theorem dX12_mends_102 : decode prog_14_method_43_code 102 = .ok (.getfield 55, 3) := by decide +kernel
theorem dX12_mends_105 : decode prog_14_method_43_code 105 = .ok (.iload_n 1, 1) := by decide +kernel
theorem dX12_mends_106 : decode prog_14_method_43_code 106 = .ok (.iaload, 1) := by decide +kernel
theorem dX12_mends_107 : decode prog_14_method_43_code 107 = .ok (.iadd, 1) := by decide +kernel
theorem dX12_mends_108 : decode prog_14_method_43_code 108 = .ok (.if_icmp .ge 41, 3) := by decide +kernel
theorem dX12_mends_111 : decode prog_14_method_43_code 111 = .ok (.iload 7, 2) := by decide +kernel
theorem dX12_mends_113 : decode prog_14_method_43_code 113 = .ok (.ifCond .eq 36, 3) := by decide +kernel
theorem dX12_mends_116 : decode prog_14_method_43_code 116 = .ok (.aload_n 0, 1) := by decide +kernel
theorem dX12_mends_117 : decode prog_14_method_43_code 117 = .ok (.getfield 64, 3) := by decide +kernel
theorem dX12_mends_120 : decode prog_14_method_43_code 120 = .ok (.iload 8, 2) := by decide +kernel
theorem dX12_mends_122 : decode prog_14_method_43_code 122 = .ok (.iaload, 1) := by decide +kernel
theorem dX12_mends_123 : decode prog_14_method_43_code 123 = .ok (.iload 4, 2) := by decide +kernel
theorem dX12_mends_125 : decode prog_14_method_43_code 125 = .ok (.if_icmp .ne 18, 3) := by decide +kernel
theorem dX12_mends_128 : decode prog_14_method_43_code 128 = .ok (.aload_n 0, 1) := by decide +kernel
theorem dX12_mends_129 : decode prog_14_method_43_code 129 = .ok (.getfield 67, 3) := by decide +kernel
theorem dX12_mends_132 : decode prog_14_method_43_code 132 = .ok (.iload 8, 2) := by decide +kernel
theorem dX12_mends_134 : decode prog_14_method_43_code 134 = .ok (.iaload, 1) := by decide +kernel
theorem dX12_mends_135 : decode prog_14_method_43_code 135 = .ok (.iload 5, 2) := by decide +kernel
theorem dX12_mends_137 : decode prog_14_method_43_code 137 = .ok (.if_icmp .le 6, 3) := by decide +kernel
theorem dX12_mends_140 : decode prog_14_method_43_code 140 = .ok (.iload 8, 2) := by decide +kernel
theorem dX12_mends_142 : decode prog_14_method_43_code 142 = .ok (.ireturn, 1) := by decide +kernel
theorem dX12_mends_143 : decode prog_14_method_43_code 143 = .ok (.iinc 8 1, 3) := by decide +kernel
theorem dX12_mends_146 : decode prog_14_method_43_code 146 = .ok (.goto (-51), 3) := by decide +kernel
theorem dX12_mends_149 : decode prog_14_method_43_code 149 = .ok (.iload 6, 2) := by decide +kernel
theorem dX12_mends_151 : decode prog_14_method_43_code 151 = .ok (.ireturn, 1) := by decide +kernel
abbrev A_X12_mends_44 (l : Launch) (E : bE) (Q : Int → Prop) (v1 : Int) (v4 : Int) (v5 : Int) (M : bM) : (Int × Int × Int) → Prop := (fun t : Int × Int × Int => V l E xX12_mends (0, 0) 44 [(0, bR 11), (1, bI v1), (4, bI v4), (5, bI v5), (6, bI (t.1)), (7, bI (t.2.1)), (8, bI (t.2.2))] [] M (b_pIp M Q))
abbrev X_X12_mends_44 (l : Launch) (E : bE) (Q : Int → Prop) (v1 : Int) (v4 : Int) (v5 : Int) (M : bM) : (Int × Int) → Prop := (fun t : Int × Int => V l E xX12_mends (0, 0) 89 [(0, bR 11), (1, bI v1), (4, bI v4), (5, bI v5), (6, bI (t.1)), (7, bI (t.2))] [] M (b_pIp M Q))
noncomputable def F_X12_mends_s44 (v1 : Int) (v4 : Int) (v5 : Int) (v6 : Int) (v7 : Int) (v8 : Int) (M : bM) : Option ((Int × Int × Int) ⊕ (Int × Int)) :=
  b_g ((b_i32 (12 * v1)) ∧ (0 ≤ v1 ∧ v1 < 60) ∧ (b_i32 ((12 * v1) + (M 175 v1)))) (if ((12 * v1) + (M 175 v1)) ≤ v8 then (some (.inr (v6, v7))) else (b_g ((0 ≤ v8 ∧ v8 < 732) ∧ (b_i32 (v4 + 2))) (if (M 178 v8) = (i_rem (v4 + 2) 4) then (b_g (b_i32 (v8 + 1)) (some (.inl (v8, 1, (v8 + 1))))) else (b_g (b_i32 (v8 + 1)) (some (.inl (v6, v7, (v8 + 1))))))))
theorem t_X12_mends_s44 {l : Launch} {E : bE} {Q : Int → Prop} {v1 : Int} {v4 : Int} {v5 : Int} {v6 : Int} {v7 : Int} {v8 : Int} {M : bM} (h : b_wp (F_X12_mends_s44 v1 v4 v5 v6 v7 v8 M) (Sum.elim (A_X12_mends_44 l E Q v1 v4 v5 M) (X_X12_mends_44 l E Q v1 v4 v5 M))) : V l E xX12_mends (0, 0) 44 [(0, bR 11), (1, bI v1), (4, bI v4), (5, bI v5), (6, bI v6), (7, bI v7), (8, bI v8)] [] M (b_pIp M Q) := by
  unfold F_X12_mends_s44 at h
  obtain ⟨⟨g6, g7, g8⟩, h⟩ := b_wp_g h
  refine v_iload (i := 8) 6 rfl dX12_mends_44 ?_
  refine v_bipush ⟨by decide, by decide⟩ (by decide) dX12_mends_46 ?_
  refine v_iload_n (f := 1) 1 rfl dX12_mends_48 ?_
  refine v_imulN g6 dX12_mends_49 ?_
  refine v_aload_n (f := 0) 0 rfl dX12_mends_50 ?_
  refine v_getR (kf := 27) (kz := 27) rfl kd_11 rfl ⟨by decide, by decide⟩ rfl wf_12_55 dX12_mends_51 ?_
  refine v_iload_n (f := 1) 1 rfl dX12_mends_54 ?_
  refine v_iaload kd_175 g7 (by decide) dX12_mends_55 ?_
  refine v_iaddN g8 dX12_mends_56 ?_
  refine v_icmp_ge (tgt := 89) dX12_mends_57 (by decide) (fun c9 => ?_) (fun c9 => ?_)
  · replace h := b_wp_t c9 h
    refine v_sub (ls2 := [(0, bR _), (1, bI _), (4, bI _), (5, bI _), (6, bI _), (7, bI _)]) [0, 1, 2, 3, 4, 5] rfl ?_
    exact h
  · replace h := b_wp_f c9 h
    obtain ⟨⟨g10, g11⟩, h⟩ := b_wp_g h
    refine v_aload_n (f := 0) 0 rfl dX12_mends_60 ?_
    refine v_getR (kf := 30) (kz := 30) rfl kd_11 rfl ⟨by decide, by decide⟩ rfl wf_12_64 dX12_mends_61 ?_
    refine v_iload (i := 8) 6 rfl dX12_mends_64 ?_
    refine v_iaload kd_178 g10 (by decide) dX12_mends_66 ?_
    refine v_iload (i := 4) 2 rfl dX12_mends_67 ?_
    refine v_iconst ⟨by decide, by decide⟩ dX12_mends_69 ?_
    refine v_iaddN g11 dX12_mends_70 ?_
    refine v_iconst ⟨by decide, by decide⟩ dX12_mends_71 ?_
    refine v_irem (v := i_rem _ _) (by decide) rfl dX12_mends_72 ?_
    refine v_icmp_ne (tgt := 83) dX12_mends_73 (by decide) (fun c12 => ?_) (fun c12 => ?_)
    · replace h := b_wp_f c12 h
      obtain ⟨g13, h⟩ := b_wp_g h
      refine v_iincN (ls' := [(8, bI _), (0, bR _), (1, bI _), (4, bI _), (5, bI _), (6, bI _), (7, bI _)]) 6 rfl (by decide) g13 dX12_mends_83 rfl ?_
      refine v_goto (tgt := 44) dX12_mends_86 (by decide) ?_
      refine v_sub (ls2 := [(0, bR _), (1, bI _), (4, bI _), (5, bI _), (6, bI _), (7, bI _), (8, bI _)]) [1, 2, 3, 4, 5, 6, 0] rfl ?_
      exact h
    · replace h := b_wp_t c12 h
      obtain ⟨g14, h⟩ := b_wp_g h
      refine v_iload (i := 8) 6 rfl dX12_mends_76 ?_
      refine v_istore (i := 6) (ls' := [(6, bI _), (0, bR _), (1, bI _), (4, bI _), (5, bI _), (7, bI _), (8, bI _)]) (by decide) dX12_mends_78 rfl ?_
      refine v_iconst ⟨by decide, by decide⟩ dX12_mends_80 ?_
      refine v_istore (i := 7) (ls' := [(7, bI _), (6, bI _), (0, bR _), (1, bI _), (4, bI _), (5, bI _), (8, bI _)]) (by decide) dX12_mends_81 rfl ?_
      refine v_iincN (ls' := [(8, bI _), (7, bI _), (6, bI _), (0, bR _), (1, bI _), (4, bI _), (5, bI _)]) 6 rfl (by decide) g14 dX12_mends_83 rfl ?_
      refine v_goto (tgt := 44) dX12_mends_86 (by decide) ?_
      refine v_sub (ls2 := [(0, bR _), (1, bI _), (4, bI _), (5, bI _), (6, bI _), (7, bI _), (8, bI _)]) [3, 4, 5, 6, 2, 1, 0] rfl ?_
      exact h
theorem l_X12_mends_44 {l : Launch} {E : bE} {Q : Int → Prop} {v1 : Int} {v4 : Int} {v5 : Int} {M : bM} {s : Int × Int × Int} (h : b_wp (b_loop (fun t => F_X12_mends_s44 v1 v4 v5 t.1 t.2.1 t.2.2 M) s) (X_X12_mends_44 l E Q v1 v4 v5 M)) : A_X12_mends_44 l E Q v1 v4 v5 M s := b_loop_wp (fun t h => t_X12_mends_s44 h) s h
abbrev A_X12_mends_95 (l : Launch) (E : bE) (Q : Int → Prop) (v1 : Int) (v4 : Int) (v5 : Int) (v6 : Int) (v7 : Int) (M : bM) : (Int) → Prop := (fun t : Int => V l E xX12_mends (0, 0) 95 [(0, bR 11), (1, bI v1), (4, bI v4), (5, bI v5), (6, bI v6), (7, bI v7), (8, bI t)] [] M (b_pIp M Q))
abbrev X_X12_mends_95 (l : Launch) (E : bE) (Q : Int → Prop) (v1 : Int) (v4 : Int) (v5 : Int) (v6 : Int) (v7 : Int) (M : bM) : ((Unit) ⊕ Int) → Prop := (Sum.elim (fun t : Unit => V l E xX12_mends (0, 0) 149 [(6, bI v6)] [] M (b_pIp M Q)) Q)
noncomputable def F_X12_mends_s95 (v1 : Int) (v4 : Int) (v5 : Int) (v6 : Int) (v7 : Int) (v8 : Int) (M : bM) : Option ((Int) ⊕ ((Unit) ⊕ Int)) :=
  b_g ((b_i32 (12 * v1)) ∧ (0 ≤ v1 ∧ v1 < 60) ∧ (b_i32 ((12 * v1) + (M 175 v1)))) (if ((12 * v1) + (M 175 v1)) ≤ v8 then (some (.inr (.inl ()))) else (if v7 = 0 then (some (.inr (.inl ()))) else (b_g (0 ≤ v8 ∧ v8 < 732) (if (M 178 v8) = v4 then (b_g (0 ≤ v8 ∧ v8 < 732) (if (M 179 v8) ≤ v5 then (b_g (b_i32 (v8 + 1)) (some (.inl ((v8 + 1))))) else (some (.inr (.inr v8))))) else (b_g (b_i32 (v8 + 1)) (some (.inl ((v8 + 1)))))))))
theorem t_X12_mends_s95 {l : Launch} {E : bE} {Q : Int → Prop} {v1 : Int} {v4 : Int} {v5 : Int} {v6 : Int} {v7 : Int} {v8 : Int} {M : bM} (h : b_wp (F_X12_mends_s95 v1 v4 v5 v6 v7 v8 M) (Sum.elim (A_X12_mends_95 l E Q v1 v4 v5 v6 v7 M) (X_X12_mends_95 l E Q v1 v4 v5 v6 v7 M))) : V l E xX12_mends (0, 0) 95 [(0, bR 11), (1, bI v1), (4, bI v4), (5, bI v5), (6, bI v6), (7, bI v7), (8, bI v8)] [] M (b_pIp M Q) := by
  unfold F_X12_mends_s95 at h
  obtain ⟨⟨g16, g17, g18⟩, h⟩ := b_wp_g h
  refine v_iload (i := 8) 6 rfl dX12_mends_95 ?_
  refine v_bipush ⟨by decide, by decide⟩ (by decide) dX12_mends_97 ?_
  refine v_iload_n (f := 1) 1 rfl dX12_mends_99 ?_
  refine v_imulN g16 dX12_mends_100 ?_
  refine v_aload_n (f := 0) 0 rfl dX12_mends_101 ?_
  refine v_getR (kf := 27) (kz := 27) rfl kd_11 rfl ⟨by decide, by decide⟩ rfl wf_12_55 dX12_mends_102 ?_
  refine v_iload_n (f := 1) 1 rfl dX12_mends_105 ?_
  refine v_iaload kd_175 g17 (by decide) dX12_mends_106 ?_
  refine v_iaddN g18 dX12_mends_107 ?_
  refine v_icmp_ge (tgt := 149) dX12_mends_108 (by decide) (fun c19 => ?_) (fun c19 => ?_)
  · replace h := b_wp_t c19 h
    refine v_sub (ls2 := [(6, bI _)]) [4] rfl ?_
    exact h
  · replace h := b_wp_f c19 h
    refine v_iload (i := 7) 5 rfl dX12_mends_111 ?_
    refine v_if_eq (tgt := 149) dX12_mends_113 (by decide) (fun c20 => ?_) (fun c20 => ?_)
    · replace h := b_wp_t c20 h
      refine v_sub (ls2 := [(6, bI _)]) [4] rfl ?_
      exact h
    · replace h := b_wp_f c20 h
      obtain ⟨g21, h⟩ := b_wp_g h
      refine v_aload_n (f := 0) 0 rfl dX12_mends_116 ?_
      refine v_getR (kf := 30) (kz := 30) rfl kd_11 rfl ⟨by decide, by decide⟩ rfl wf_12_64 dX12_mends_117 ?_
      refine v_iload (i := 8) 6 rfl dX12_mends_120 ?_
      refine v_iaload kd_178 g21 (by decide) dX12_mends_122 ?_
      refine v_iload (i := 4) 2 rfl dX12_mends_123 ?_
      refine v_icmp_ne (tgt := 143) dX12_mends_125 (by decide) (fun c22 => ?_) (fun c22 => ?_)
      · replace h := b_wp_f c22 h
        obtain ⟨g23, h⟩ := b_wp_g h
        refine v_iincN (ls' := [(8, bI _), (0, bR _), (1, bI _), (4, bI _), (5, bI _), (6, bI _), (7, bI _)]) 6 rfl (by decide) g23 dX12_mends_143 rfl ?_
        refine v_goto (tgt := 95) dX12_mends_146 (by decide) ?_
        refine v_sub (ls2 := [(0, bR _), (1, bI _), (4, bI _), (5, bI _), (6, bI _), (7, bI _), (8, bI _)]) [1, 2, 3, 4, 5, 6, 0] rfl ?_
        exact h
      · replace h := b_wp_t c22 h
        obtain ⟨g24, h⟩ := b_wp_g h
        refine v_aload_n (f := 0) 0 rfl dX12_mends_128 ?_
        refine v_getR (kf := 31) (kz := 31) rfl kd_11 rfl ⟨by decide, by decide⟩ rfl wf_12_67 dX12_mends_129 ?_
        refine v_iload (i := 8) 6 rfl dX12_mends_132 ?_
        refine v_iaload kd_179 g24 (by decide) dX12_mends_134 ?_
        refine v_iload (i := 5) 3 rfl dX12_mends_135 ?_
        refine v_icmp_le (tgt := 143) dX12_mends_137 (by decide) (fun c25 => ?_) (fun c25 => ?_)
        · replace h := b_wp_t c25 h
          obtain ⟨g26, h⟩ := b_wp_g h
          refine v_iincN (ls' := [(8, bI _), (0, bR _), (1, bI _), (4, bI _), (5, bI _), (6, bI _), (7, bI _)]) 6 rfl (by decide) g26 dX12_mends_143 rfl ?_
          refine v_goto (tgt := 95) dX12_mends_146 (by decide) ?_
          refine v_sub (ls2 := [(0, bR _), (1, bI _), (4, bI _), (5, bI _), (6, bI _), (7, bI _), (8, bI _)]) [1, 2, 3, 4, 5, 6, 0] rfl ?_
          exact h
        · replace h := b_wp_f c25 h
          refine v_iload (i := 8) 6 rfl dX12_mends_140 ?_
          refine v_ireturn rfl dX12_mends_142 ⟨by decide, by decide⟩ ?_
          exact ⟨_, rfl, rfl, h⟩
theorem l_X12_mends_95 {l : Launch} {E : bE} {Q : Int → Prop} {v1 : Int} {v4 : Int} {v5 : Int} {v6 : Int} {v7 : Int} {M : bM} {s : Int} (h : b_wp (b_loop (fun t => F_X12_mends_s95 v1 v4 v5 v6 v7 t M) s) (X_X12_mends_95 l E Q v1 v4 v5 v6 v7 M)) : A_X12_mends_95 l E Q v1 v4 v5 v6 v7 M s := b_loop_wp (fun t h => t_X12_mends_s95 h) s h
noncomputable def F_X12_mends_b149 (v6 : Int) (M : bM) : Option (Int) :=
  some v6
theorem t_X12_mends_b149 {l : Launch} {E : bE} {Q : Int → Prop} {v6 : Int} {M : bM} (h : b_wp (F_X12_mends_b149 v6 M) (Q)) : V l E xX12_mends (0, 0) 149 [(6, bI v6)] [] M (b_pIp M Q) := by
  unfold F_X12_mends_b149 at h
  refine v_iload (i := 6) 0 rfl dX12_mends_149 ?_
  refine v_ireturn rfl dX12_mends_151 ⟨by decide, by decide⟩ ?_
  exact ⟨_, rfl, rfl, h⟩
noncomputable def F_X12_mends_b89 (v1 : Int) (v4 : Int) (v5 : Int) (v6 : Int) (v7 : Int) (M : bM) : Option (Int) :=
  b_g (b_i32 (12 * v1)) (b_bind (b_loop (fun t => F_X12_mends_s95 v1 v4 v5 v6 v7 t M) ((12 * v1))) (Sum.elim (fun t => F_X12_mends_b149 v6 M) some))
theorem t_X12_mends_b89 {l : Launch} {E : bE} {Q : Int → Prop} {v1 : Int} {v4 : Int} {v5 : Int} {v6 : Int} {v7 : Int} {M : bM} (h : b_wp (F_X12_mends_b89 v1 v4 v5 v6 v7 M) (Q)) : V l E xX12_mends (0, 0) 89 [(0, bR 11), (1, bI v1), (4, bI v4), (5, bI v5), (6, bI v6), (7, bI v7)] [] M (b_pIp M Q) := by
  unfold F_X12_mends_b89 at h
  obtain ⟨g15, h⟩ := b_wp_g h
  refine v_bipush ⟨by decide, by decide⟩ (by decide) dX12_mends_89 ?_
  refine v_iload_n (f := 1) 1 rfl dX12_mends_91 ?_
  refine v_imulN g15 dX12_mends_92 ?_
  refine v_istore (i := 8) (ls' := [(8, bI _), (0, bR _), (1, bI _), (4, bI _), (5, bI _), (6, bI _), (7, bI _)]) (by decide) dX12_mends_93 rfl ?_
  refine v_sub (ls2 := [(0, bR _), (1, bI _), (4, bI _), (5, bI _), (6, bI _), (7, bI _), (8, bI _)]) [1, 2, 3, 4, 5, 6, 0] rfl ?_
  refine l_X12_mends_95 (b_wp_m (fun t h => ?_) (b_wp_b h))
  cases t with
  | inr o => exact h
  | inl t =>
    show V l E xX12_mends (0, 0) 149 [(6, bI _)] [] _ (b_pIp M Q)
    replace h := b_wp_inl h
    exact t_X12_mends_b149 h
noncomputable def F_X12_mends_b30 (v1 : Int) (v4 : Int) (u0 : Int) (M : bM) : Option (Int) :=
  b_g (b_i32 (12 * v1)) (b_bind (b_loop (fun t => F_X12_mends_s44 v1 v4 u0 t.1 t.2.1 t.2.2 M) ((-1), 0, (12 * v1))) (fun t => F_X12_mends_b89 v1 v4 u0 (t.1) (t.2) M))
theorem t_X12_mends_b30 {l : Launch} {E : bE} {Q : Int → Prop} {v1 : Int} {v4 : Int} {u0 : Int} {M : bM} (h : b_wp (F_X12_mends_b30 v1 v4 u0 M) (Q)) : V l E xX12_mends (0, 0) 30 [(0, bR 11), (1, bI v1), (4, bI v4)] [bI u0] M (b_pIp M Q) := by
  unfold F_X12_mends_b30 at h
  obtain ⟨g5, h⟩ := b_wp_g h
  refine v_istore (i := 5) (ls' := [(5, bI _), (0, bR _), (1, bI _), (4, bI _)]) (by decide) dX12_mends_30 rfl ?_
  refine v_iconst ⟨by decide, by decide⟩ dX12_mends_32 ?_
  refine v_istore (i := 6) (ls' := [(6, bI _), (5, bI _), (0, bR _), (1, bI _), (4, bI _)]) (by decide) dX12_mends_33 rfl ?_
  refine v_iconst ⟨by decide, by decide⟩ dX12_mends_35 ?_
  refine v_istore (i := 7) (ls' := [(7, bI _), (6, bI _), (5, bI _), (0, bR _), (1, bI _), (4, bI _)]) (by decide) dX12_mends_36 rfl ?_
  refine v_bipush ⟨by decide, by decide⟩ (by decide) dX12_mends_38 ?_
  refine v_iload_n (f := 1) 4 rfl dX12_mends_40 ?_
  refine v_imulN g5 dX12_mends_41 ?_
  refine v_istore (i := 8) (ls' := [(8, bI _), (7, bI _), (6, bI _), (5, bI _), (0, bR _), (1, bI _), (4, bI _)]) (by decide) dX12_mends_42 rfl ?_
  refine v_sub (ls2 := [(0, bR _), (1, bI _), (4, bI _), (5, bI _), (6, bI _), (7, bI _), (8, bI _)]) [4, 5, 6, 3, 2, 1, 0] rfl ?_
  refine l_X12_mends_44 (b_wp_m (fun t h => ?_) (b_wp_b h))
  show V l E xX12_mends (0, 0) 89 [(0, bR 11), (1, bI _), (4, bI _), (5, bI _), (6, bI _), (7, bI _)] [] _ (b_pIp M Q)
  exact t_X12_mends_b89 h
noncomputable def F_X12_mends_b18 (v1 : Int) (v3 : Int) (u0 : Int) (M : bM) : Option (Int) :=
  if 0 ≤ v3 then (F_X12_mends_b30 v1 u0 v3 M) else (b_g (b_i32 (-v3)) (F_X12_mends_b30 v1 u0 (-v3) M))
theorem t_X12_mends_b18 {l : Launch} {E : bE} {Q : Int → Prop} {v1 : Int} {v3 : Int} {u0 : Int} {M : bM} (h : b_wp (F_X12_mends_b18 v1 v3 u0 M) (Q)) : V l E xX12_mends (0, 0) 18 [(0, bR 11), (1, bI v1), (3, bI v3)] [bI u0] M (b_pIp M Q) := by
  unfold F_X12_mends_b18 at h
  refine v_istore (i := 4) (ls' := [(4, bI _), (0, bR _), (1, bI _), (3, bI _)]) (by decide) dX12_mends_18 rfl ?_
  refine v_iload_n (f := 3) 3 rfl dX12_mends_20 ?_
  refine v_if_ge (tgt := 29) dX12_mends_21 (by decide) (fun c4 => ?_) (fun c4 => ?_)
  · replace h := b_wp_t c4 h
    refine v_iload_n (f := 3) 3 rfl dX12_mends_29 ?_
    refine v_sub (ls2 := [(0, bR _), (1, bI _), (4, bI _)]) [1, 2, 0] rfl ?_
    exact t_X12_mends_b30 h
  · replace h := b_wp_f c4 h
    obtain ⟨g27, h⟩ := b_wp_g h
    refine v_iload_n (f := 3) 3 rfl dX12_mends_24 ?_
    refine v_inegN g27 dX12_mends_25 ?_
    refine v_goto (tgt := 30) dX12_mends_26 (by decide) ?_
    refine v_sub (ls2 := [(0, bR _), (1, bI _), (4, bI _)]) [1, 2, 0] rfl ?_
    exact t_X12_mends_b30 h
noncomputable def F_X12_mends (v1 : Int) (v2 : Int) (M : bM) : Option (Int) :=
  b_bind (F_X12_leads v1 v2 M) (fun x1 => if x1 ≤ 0 then (b_g (b_i32 (v2 + 2)) (F_X12_mends_b18 v1 x1 (v2 + 2) M)) else (F_X12_mends_b18 v1 x1 v2 M))
theorem t_X12_mends {l : Launch} {E : bE} {Q : Int → Prop} {v1 : Int} {v2 : Int} {M : bM} (h : b_wp (F_X12_mends v1 v2 M) (Q)) : V l E xX12_mends (0, 0) 0 [(0, bR 11), (1, bI v1), (2, bI v2)] [] M (b_pIp M Q) := by
  unfold F_X12_mends at h
  refine v_aload_n (f := 0) 0 rfl dX12_mends_0 ?_
  refine v_iload_n (f := 1) 1 rfl dX12_mends_1 ?_
  refine v_iload_n (f := 2) 2 rfl dX12_mends_2 ?_
  refine v_cVIp (nA := 2) (As := [bI _, bI _]) (ix := 405) (cf_X12_leads (b_wp_b h)) rfl kd_11 rfl rfl wc_X12_leads wm_12_405 wi_X12_leads ws_X12_leads wn_12 ⟨by decide, by decide, by decide⟩ rfl ⟨by decide, by decide⟩ ⟨by decide, by decide⟩ (Nat.le_of_ble_eq_true rfl) dX12_mends_3 (fun x1 h => ?_)
  refine v_istore_n (g := 3) (i := 3) (ls' := [(3, bI _), (0, bR _), (1, bI _), (2, bI _)]) rfl (by decide) dX12_mends_6 rfl ?_
  refine v_iload_n (f := 3) 0 rfl dX12_mends_7 ?_
  refine v_if_le (tgt := 15) dX12_mends_8 (by decide) (fun c2 => ?_) (fun c2 => ?_)
  · replace h := b_wp_t c2 h
    obtain ⟨g3, h⟩ := b_wp_g h
    refine v_iload_n (f := 2) 3 rfl dX12_mends_15 ?_
    refine v_iconst ⟨by decide, by decide⟩ dX12_mends_16 ?_
    refine v_iaddN g3 dX12_mends_17 ?_
    refine v_sub (ls2 := [(0, bR _), (1, bI _), (3, bI _)]) [1, 2, 0] rfl ?_
    exact t_X12_mends_b18 h
  · replace h := b_wp_f c2 h
    refine v_iload_n (f := 2) 3 rfl dX12_mends_11 ?_
    refine v_goto (tgt := 18) dX12_mends_12 (by decide) ?_
    refine v_sub (ls2 := [(0, bR _), (1, bI _), (3, bI _)]) [1, 2, 0] rfl ?_
    exact t_X12_mends_b18 h
theorem cf_X12_mends {l : Launch} {E : bE} {M : bM} {v1 : Int} {v2 : Int} {Q : Int → Prop} (h : b_wp (F_X12_mends v1 v2 M) Q) : b_C l E xX12_mends yX12_mends [bR 11, bI v1, bI v2] M (b_pIp M Q) := b_met (by decide) ⟨rfl, rfl⟩ (Nat.le_of_ble_eq_true rfl) (fun _ _ => t_X12_mends h)
abbrev xX12_mend : bX := ("BurntHallModel", prog_14_method_44_code, 7, (Option.some Jvm.ClassFile.FieldType.int), b_rm 5 0 0, 0, "mend")
abbrev yX12_mend : MethodName := ⟨"BurntHallModel", "mend", "(I)I"⟩
theorem dX12_mend_0 : decode prog_14_method_44_code 0 = .ok (.aload_n 0, 1) := by decide +kernel
theorem dX12_mend_1 : decode prog_14_method_44_code 1 = .ok (.iload_n 1, 1) := by decide +kernel
theorem dX12_mend_2 : decode prog_14_method_44_code 2 = .ok (.invokevirtual 402, 3) := by decide +kernel
theorem dX12_mend_5 : decode prog_14_method_44_code 5 = .ok (.ifCond .eq 9, 3) := by decide +kernel
theorem dX12_mend_8 : decode prog_14_method_44_code 8 = .ok (.aload_n 0, 1) := by decide +kernel
theorem dX12_mend_9 : decode prog_14_method_44_code 9 = .ok (.iload_n 1, 1) := by decide +kernel
theorem dX12_mend_10 : decode prog_14_method_44_code 10 = .ok (.invokevirtual 402, 3) := by decide +kernel
theorem dX12_mend_13 : decode prog_14_method_44_code 13 = .ok (.ireturn, 1) := by decide +kernel
theorem dX12_mend_14 : decode prog_14_method_44_code 14 = .ok (.aload_n 0, 1) := by decide +kernel
theorem dX12_mend_15 : decode prog_14_method_44_code 15 = .ok (.iload_n 1, 1) := by decide +kernel
theorem dX12_mend_16 : decode prog_14_method_44_code 16 = .ok (.invokevirtual 408, 3) := by decide +kernel
theorem dX12_mend_19 : decode prog_14_method_44_code 19 = .ok (.istore_n 2, 1) := by decide +kernel
theorem dX12_mend_20 : decode prog_14_method_44_code 20 = .ok (.iconst 0, 1) := by decide +kernel
theorem dX12_mend_21 : decode prog_14_method_44_code 21 = .ok (.istore_n 3, 1) := by decide +kernel
theorem dX12_mend_22 : decode prog_14_method_44_code 22 = .ok (.iload_n 3, 1) := by decide +kernel
theorem dX12_mend_23 : decode prog_14_method_44_code 23 = .ok (.iconst 2, 1) := by decide +kernel
theorem dX12_mend_24 : decode prog_14_method_44_code 24 = .ok (.if_icmp .ge 30, 3) := by decide +kernel
theorem dX12_mend_27 : decode prog_14_method_44_code 27 = .ok (.aload_n 0, 1) := by decide +kernel
theorem dX12_mend_28 : decode prog_14_method_44_code 28 = .ok (.iload_n 1, 1) := by decide +kernel
theorem dX12_mend_29 : decode prog_14_method_44_code 29 = .ok (.iload_n 3, 1) := by decide +kernel
theorem dX12_mend_30 : decode prog_14_method_44_code 30 = .ok (.invokevirtual 405, 3) := by decide +kernel
theorem dX12_mend_33 : decode prog_14_method_44_code 33 = .ok (.ifCond .eq 15, 3) := by decide +kernel
theorem dX12_mend_36 : decode prog_14_method_44_code 36 = .ok (.aload_n 0, 1) := by decide +kernel
theorem dX12_mend_37 : decode prog_14_method_44_code 37 = .ok (.iload_n 1, 1) := by decide +kernel
theorem dX12_mend_38 : decode prog_14_method_44_code 38 = .ok (.iload_n 3, 1) := by decide +kernel
theorem dX12_mend_39 : decode prog_14_method_44_code 39 = .ok (.invokevirtual 411, 3) := by decide +kernel
theorem dX12_mend_42 : decode prog_14_method_44_code 42 = .ok (.iconst (-1), 1) := by decide +kernel
theorem dX12_mend_43 : decode prog_14_method_44_code 43 = .ok (.if_icmp .ne 5, 3) := by decide +kernel
theorem dX12_mend_46 : decode prog_14_method_44_code 46 = .ok (.iconst (-1), 1) := by decide +kernel
theorem dX12_mend_47 : decode prog_14_method_44_code 47 = .ok (.ireturn, 1) := by decide +kernel
theorem dX12_mend_48 : decode prog_14_method_44_code 48 = .ok (.iinc 3 1, 3) := by decide +kernel
theorem dX12_mend_51 : decode prog_14_method_44_code 51 = .ok (.goto (-29), 3) := by decide +kernel
theorem dX12_mend_54 : decode prog_14_method_44_code 54 = .ok (.iconst 0, 1) := by decide +kernel
theorem dX12_mend_55 : decode prog_14_method_44_code 55 = .ok (.istore_n 3, 1) := by decide +kernel
theorem dX12_mend_56 : decode prog_14_method_44_code 56 = .ok (.iload_n 3, 1) := by decide +kernel
theorem dX12_mend_57 : decode prog_14_method_44_code 57 = .ok (.iconst 2, 1) := by decide +kernel
theorem dX12_mend_58 : decode prog_14_method_44_code 58 = .ok (.if_icmp .ge 88, 3) := by decide +kernel
theorem dX12_mend_61 : decode prog_14_method_44_code 61 = .ok (.aload_n 0, 1) := by decide +kernel
theorem dX12_mend_62 : decode prog_14_method_44_code 62 = .ok (.iload_n 1, 1) := by decide +kernel
theorem dX12_mend_63 : decode prog_14_method_44_code 63 = .ok (.iload_n 3, 1) := by decide +kernel
theorem dX12_mend_64 : decode prog_14_method_44_code 64 = .ok (.invokevirtual 405, 3) := by decide +kernel
theorem dX12_mend_67 : decode prog_14_method_44_code 67 = .ok (.istore 4, 2) := by decide +kernel
theorem dX12_mend_69 : decode prog_14_method_44_code 69 = .ok (.iload 4, 2) := by decide +kernel
theorem dX12_mend_71 : decode prog_14_method_44_code 71 = .ok (.ifCond .ne 6, 3) := by decide +kernel
theorem dX12_mend_74 : decode prog_14_method_44_code 74 = .ok (.goto 66, 3) := by decide +kernel
theorem dX12_mend_77 : decode prog_14_method_44_code 77 = .ok (.aload_n 0, 1) := by decide +kernel
theorem dX12_mend_78 : decode prog_14_method_44_code 78 = .ok (.iload_n 1, 1) := by decide +kernel
theorem dX12_mend_79 : decode prog_14_method_44_code 79 = .ok (.iload_n 3, 1) := by decide +kernel
theorem dX12_mend_80 : decode prog_14_method_44_code 80 = .ok (.invokevirtual 411, 3) := by decide +kernel
theorem dX12_mend_83 : decode prog_14_method_44_code 83 = .ok (.istore 5, 2) := by decide +kernel
theorem dX12_mend_85 : decode prog_14_method_44_code 85 = .ok (.iload 4, 2) := by decide +kernel
theorem dX12_mend_87 : decode prog_14_method_44_code 87 = .ok (.ifCond .ge 9, 3) := by decide +kernel
theorem dX12_mend_90 : decode prog_14_method_44_code 90 = .ok (.iload 4, 2) := by decide +kernel
theorem dX12_mend_92 : decode prog_14_method_44_code 92 = .ok (.ineg, 1) := by decide +kernel
theorem dX12_mend_93 : decode prog_14_method_44_code 93 = .ok (.goto 5, 3) := by decide +kernel
theorem dX12_mend_96 : decode prog_14_method_44_code 96 = .ok (.iload 4, 2) := by decide +kernel
theorem dX12_mend_98 : decode prog_14_method_44_code 98 = .ok (.istore 6, 2) := by decide +kernel
theorem dX12_mend_100 : decode prog_14_method_44_code 100 = .ok (.aload_n 0, 1) := by decide +kernel
theorem dX12_mend_101 : decode prog_14_method_44_code 101 = .ok (.getfield 67, 3) := by decide +kernel
theorem dX12_mend_104 : decode prog_14_method_44_code 104 = .ok (.iload 5, 2) := by decide +kernel
theorem dX12_mend_106 : decode prog_14_method_44_code 106 = .ok (.dup2, 1) := by decide +kernel
theorem dX12_mend_107 : decode prog_14_method_44_code 107 = .ok (.iaload, 1) := by decide +kernel
theorem dX12_mend_108 : decode prog_14_method_44_code 108 = .ok (.aload_n 0, 1) := by decide +kernel
theorem dX12_mend_109 : decode prog_14_method_44_code 109 = .ok (.getfield 64, 3) := by decide +kernel
theorem dX12_mend_112 : decode prog_14_method_44_code 112 = .ok (.iload 5, 2) := by decide +kernel
theorem dX12_mend_114 : decode prog_14_method_44_code 114 = .ok (.iaload, 1) := by decide +kernel
theorem dX12_mend_115 : decode prog_14_method_44_code 115 = .ok (.iload 4, 2) := by decide +kernel
theorem dX12_mend_117 : decode prog_14_method_44_code 117 = .ok (.ifCond .le 7, 3) := by decide +kernel
theorem dX12_mend_120 : decode prog_14_method_44_code 120 = .ok (.iload_n 3, 1) := by decide +kernel
theorem dX12_mend_121 : decode prog_14_method_44_code 121 = .ok (.goto 6, 3) := by decide +kernel
theorem dX12_mend_124 : decode prog_14_method_44_code 124 = .ok (.iload_n 3, 1) := by decide +kernel
theorem dX12_mend_125 : decode prog_14_method_44_code 125 = .ok (.iconst 2, 1) := by decide +kernel
theorem dX12_mend_126 : decode prog_14_method_44_code 126 = .ok (.iadd, 1) := by decide +kernel
theorem dX12_mend_127 : decode prog_14_method_44_code 127 = .ok (.if_icmp .ne 9, 3) := by decide +kernel
theorem dX12_mend_130 : decode prog_14_method_44_code 130 = .ok (.iload 6, 2) := by decide +kernel
theorem dX12_mend_132 : decode prog_14_method_44_code 132 = .ok (.ineg, 1) := by decide +kernel
theorem dX12_mend_133 : decode prog_14_method_44_code 133 = .ok (.goto 5, 3) := by decide +kernel
theorem dX12_mend_136 : decode prog_14_method_44_code 136 = .ok (.iload 6, 2) := by decide +kernel
theorem dX12_mend_138 : decode prog_14_method_44_code 138 = .ok (.iadd, 1) := by decide +kernel
theorem dX12_mend_139 : decode prog_14_method_44_code 139 = .ok (.iastore, 1) := by decide +kernel
theorem dX12_mend_140 : decode prog_14_method_44_code 140 = .ok (.iinc 3 1, 3) := by decide +kernel
theorem dX12_mend_143 : decode prog_14_method_44_code 143 = .ok (.goto (-87), 3) := by decide +kernel
theorem dX12_mend_146 : decode prog_14_method_44_code 146 = .ok (.iload_n 2, 1) := by decide +kernel
theorem dX12_mend_147 : decode prog_14_method_44_code 147 = .ok (.ireturn, 1) := by decide +kernel
abbrev A_X12_mend_22 (l : Launch) (E : bE) (Q : (Int × bM) → Prop) (v1 : Int) (v2 : Int) (M : bM) : (Int) → Prop := (fun t : Int => V l E xX12_mend (0, 0) 22 [(0, bR 11), (1, bI v1), (2, bI v2), (3, bI t)] [] M (b_pI Q))
abbrev X_X12_mend_22 (l : Launch) (E : bE) (Q : (Int × bM) → Prop) (v1 : Int) (v2 : Int) (M : bM) : ((Unit) ⊕ (Int × bM)) → Prop := (Sum.elim (fun t : Unit => V l E xX12_mend (0, 0) 54 [(0, bR 11), (1, bI v1), (2, bI v2)] [] M (b_pI Q)) Q)
noncomputable def F_X12_mend_s22 (v1 : Int) (v2 : Int) (v3 : Int) (M : bM) : Option ((Int) ⊕ ((Unit) ⊕ (Int × bM))) :=
  if 2 ≤ v3 then (some (.inr (.inl ()))) else (b_bind (F_X12_leads v1 v3 M) (fun x5 => if x5 = 0 then (b_g (b_i32 (v3 + 1)) (some (.inl ((v3 + 1))))) else (b_bind (F_X12_mends v1 v3 M) (fun x8 => if x8 = (-1) then (some (.inr (.inr ((-1), M)))) else (b_g (b_i32 (v3 + 1)) (some (.inl ((v3 + 1)))))))))
theorem t_X12_mend_s22 {l : Launch} {E : bE} {Q : (Int × bM) → Prop} {v1 : Int} {v2 : Int} {v3 : Int} {M : bM} (h : b_wp (F_X12_mend_s22 v1 v2 v3 M) (Sum.elim (A_X12_mend_22 l E Q v1 v2 M) (X_X12_mend_22 l E Q v1 v2 M))) : V l E xX12_mend (0, 0) 22 [(0, bR 11), (1, bI v1), (2, bI v2), (3, bI v3)] [] M (b_pI Q) := by
  unfold F_X12_mend_s22 at h
  refine v_iload_n (f := 3) 3 rfl dX12_mend_22 ?_
  refine v_iconst ⟨by decide, by decide⟩ dX12_mend_23 ?_
  refine v_icmp_ge (tgt := 54) dX12_mend_24 (by decide) (fun c4 => ?_) (fun c4 => ?_)
  · replace h := b_wp_t c4 h
    refine v_sub (ls2 := [(0, bR _), (1, bI _), (2, bI _)]) [0, 1, 2] rfl ?_
    exact h
  · replace h := b_wp_f c4 h
    refine v_aload_n (f := 0) 0 rfl dX12_mend_27 ?_
    refine v_iload_n (f := 1) 1 rfl dX12_mend_28 ?_
    refine v_iload_n (f := 3) 3 rfl dX12_mend_29 ?_
    refine v_cVIp (nA := 2) (As := [bI _, bI _]) (ix := 405) (cf_X12_leads (b_wp_b h)) rfl kd_11 rfl rfl wc_X12_leads wm_12_405 wi_X12_leads ws_X12_leads wn_12 ⟨by decide, by decide, by decide⟩ rfl ⟨by decide, by decide⟩ ⟨by decide, by decide⟩ (Nat.le_of_ble_eq_true rfl) dX12_mend_30 (fun x5 h => ?_)
    refine v_if_eq (tgt := 48) dX12_mend_33 (by decide) (fun c6 => ?_) (fun c6 => ?_)
    · replace h := b_wp_t c6 h
      obtain ⟨g7, h⟩ := b_wp_g h
      refine v_iincN (ls' := [(3, bI _), (0, bR _), (1, bI _), (2, bI _)]) 3 rfl (by decide) g7 dX12_mend_48 rfl ?_
      refine v_goto (tgt := 22) dX12_mend_51 (by decide) ?_
      refine v_sub (ls2 := [(0, bR _), (1, bI _), (2, bI _), (3, bI _)]) [1, 2, 3, 0] rfl ?_
      exact h
    · replace h := b_wp_f c6 h
      refine v_aload_n (f := 0) 0 rfl dX12_mend_36 ?_
      refine v_iload_n (f := 1) 1 rfl dX12_mend_37 ?_
      refine v_iload_n (f := 3) 3 rfl dX12_mend_38 ?_
      refine v_cVIp (nA := 2) (As := [bI _, bI _]) (ix := 411) (cf_X12_mends (b_wp_b h)) rfl kd_11 rfl rfl wc_X12_mends wm_12_411 wi_X12_mends ws_X12_mends wn_12 ⟨by decide, by decide, by decide⟩ rfl ⟨by decide, by decide⟩ ⟨by decide, by decide⟩ (Nat.le_of_ble_eq_true rfl) dX12_mend_39 (fun x8 h => ?_)
      refine v_iconst ⟨by decide, by decide⟩ dX12_mend_42 ?_
      refine v_icmp_ne (tgt := 48) dX12_mend_43 (by decide) (fun c9 => ?_) (fun c9 => ?_)
      · replace h := b_wp_f c9 h
        obtain ⟨g10, h⟩ := b_wp_g h
        refine v_iincN (ls' := [(3, bI _), (0, bR _), (1, bI _), (2, bI _)]) 3 rfl (by decide) g10 dX12_mend_48 rfl ?_
        refine v_goto (tgt := 22) dX12_mend_51 (by decide) ?_
        refine v_sub (ls2 := [(0, bR _), (1, bI _), (2, bI _), (3, bI _)]) [1, 2, 3, 0] rfl ?_
        exact h
      · replace h := b_wp_t c9 h
        refine v_iconst ⟨by decide, by decide⟩ dX12_mend_46 ?_
        refine v_ireturn rfl dX12_mend_47 ⟨by decide, by decide⟩ ?_
        exact ⟨_, rfl, h⟩
theorem l_X12_mend_22 {l : Launch} {E : bE} {Q : (Int × bM) → Prop} {v1 : Int} {v2 : Int} {M : bM} {s : Int} (h : b_wp (b_loop (fun t => F_X12_mend_s22 v1 v2 t M) s) (X_X12_mend_22 l E Q v1 v2 M)) : A_X12_mend_22 l E Q v1 v2 M s := b_loop_wp (fun t h => t_X12_mend_s22 h) s h
abbrev A_X12_mend_56 (l : Launch) (E : bE) (Q : (Int × bM) → Prop) (v1 : Int) (v2 : Int) : (Int × bM) → Prop := (fun t : Int × bM => V l E xX12_mend (0, 0) 56 [(0, bR 11), (1, bI v1), (2, bI v2), (3, bI (t.1))] [] t.2 (b_pI Q))
abbrev X_X12_mend_56 (l : Launch) (E : bE) (Q : (Int × bM) → Prop) (v1 : Int) (v2 : Int) : (bM) → Prop := (fun t : bM => V l E xX12_mend (0, 0) 146 [(2, bI v2)] [] t (b_pI Q))
noncomputable def F_X12_mend_b138 (v1 : Int) (v2 : Int) (v3 : Int) (u1 : Int) (u2 : Int) (u3 : Int) (M : bM) : Option ((Int × bM) ⊕ (bM)) :=
  b_g ((b_i32 (u2 + u3)) ∧ (0 ≤ u1 ∧ u1 < 732)) (b_let (b_up M 179 u1 (u2 + u3)) (fun M22 => b_g (b_i32 (v3 + 1)) (some (.inl ((v3 + 1), M22)))))
theorem t_X12_mend_b138 {l : Launch} {E : bE} {Q : (Int × bM) → Prop} {v1 : Int} {v2 : Int} {v3 : Int} {u1 : Int} {u2 : Int} {u3 : Int} {M : bM} (h : b_wp (F_X12_mend_b138 v1 v2 v3 u1 u2 u3 M) (Sum.elim (A_X12_mend_56 l E Q v1 v2) (X_X12_mend_56 l E Q v1 v2))) : V l E xX12_mend (0, 0) 138 [(0, bR 11), (1, bI v1), (2, bI v2), (3, bI v3)] [bI u3, bI u2, bI u1, bR 179] M (b_pI Q) := by
  unfold F_X12_mend_b138 at h
  obtain ⟨⟨g20, g21⟩, h⟩ := b_wp_g h
  refine v_iaddN g20 dX12_mend_138 ?_
  refine v_iastore kd_179 g21 (by decide) dX12_mend_139 ?_
  replace h := b_wp_l h
  obtain ⟨g23, h⟩ := b_wp_g h
  refine v_iincN (ls' := [(3, bI _), (0, bR _), (1, bI _), (2, bI _)]) 3 rfl (by decide) g23 dX12_mend_140 rfl ?_
  refine v_goto (tgt := 56) dX12_mend_143 (by decide) ?_
  refine v_sub (ls2 := [(0, bR _), (1, bI _), (2, bI _), (3, bI _)]) [1, 2, 3, 0] rfl ?_
  exact h
noncomputable def F_X12_mend_b127 (v1 : Int) (v2 : Int) (v3 : Int) (v6 : Int) (u1 : Int) (u2 : Int) (u3 : Int) (u4 : Int) (M : bM) : Option ((Int × bM) ⊕ (bM)) :=
  if u3 = u4 then (b_g (b_i32 (-v6)) (F_X12_mend_b138 v1 v2 v3 u1 u2 (-v6) M)) else (F_X12_mend_b138 v1 v2 v3 u1 u2 v6 M)
theorem t_X12_mend_b127 {l : Launch} {E : bE} {Q : (Int × bM) → Prop} {v1 : Int} {v2 : Int} {v3 : Int} {v6 : Int} {u1 : Int} {u2 : Int} {u3 : Int} {u4 : Int} {M : bM} (h : b_wp (F_X12_mend_b127 v1 v2 v3 v6 u1 u2 u3 u4 M) (Sum.elim (A_X12_mend_56 l E Q v1 v2) (X_X12_mend_56 l E Q v1 v2))) : V l E xX12_mend (0, 0) 127 [(0, bR 11), (1, bI v1), (2, bI v2), (3, bI v3), (6, bI v6)] [bI u4, bI u3, bI u2, bI u1, bR 179] M (b_pI Q) := by
  unfold F_X12_mend_b127 at h
  refine v_icmp_ne (tgt := 136) dX12_mend_127 (by decide) (fun c19 => ?_) (fun c19 => ?_)
  · replace h := b_wp_f c19 h
    refine v_iload (i := 6) 4 rfl dX12_mend_136 ?_
    refine v_sub (ls2 := [(0, bR _), (1, bI _), (2, bI _), (3, bI _)]) [0, 1, 2, 3] rfl ?_
    exact t_X12_mend_b138 h
  · replace h := b_wp_t c19 h
    obtain ⟨g24, h⟩ := b_wp_g h
    refine v_iload (i := 6) 4 rfl dX12_mend_130 ?_
    refine v_inegN g24 dX12_mend_132 ?_
    refine v_goto (tgt := 138) dX12_mend_133 (by decide) ?_
    refine v_sub (ls2 := [(0, bR _), (1, bI _), (2, bI _), (3, bI _)]) [0, 1, 2, 3] rfl ?_
    exact t_X12_mend_b138 h
noncomputable def F_X12_mend_b98 (v1 : Int) (v2 : Int) (v3 : Int) (v4 : Int) (v5 : Int) (u0 : Int) (M : bM) : Option ((Int × bM) ⊕ (bM)) :=
  b_g (0 ≤ v5 ∧ v5 < 732) (if v4 ≤ 0 then (b_g (b_i32 (v3 + 2)) (F_X12_mend_b127 v1 v2 v3 u0 v5 (M 179 v5) (M 178 v5) (v3 + 2) M)) else (F_X12_mend_b127 v1 v2 v3 u0 v5 (M 179 v5) (M 178 v5) v3 M))
theorem t_X12_mend_b98 {l : Launch} {E : bE} {Q : (Int × bM) → Prop} {v1 : Int} {v2 : Int} {v3 : Int} {v4 : Int} {v5 : Int} {u0 : Int} {M : bM} (h : b_wp (F_X12_mend_b98 v1 v2 v3 v4 v5 u0 M) (Sum.elim (A_X12_mend_56 l E Q v1 v2) (X_X12_mend_56 l E Q v1 v2))) : V l E xX12_mend (0, 0) 98 [(0, bR 11), (1, bI v1), (2, bI v2), (3, bI v3), (4, bI v4), (5, bI v5)] [bI u0] M (b_pI Q) := by
  unfold F_X12_mend_b98 at h
  obtain ⟨g16, h⟩ := b_wp_g h
  refine v_istore (i := 6) (ls' := [(6, bI _), (0, bR _), (1, bI _), (2, bI _), (3, bI _), (4, bI _), (5, bI _)]) (by decide) dX12_mend_98 rfl ?_
  refine v_aload_n (f := 0) 1 rfl dX12_mend_100 ?_
  refine v_getR (kf := 31) (kz := 31) rfl kd_11 rfl ⟨by decide, by decide⟩ rfl wf_12_67 dX12_mend_101 ?_
  refine v_iload (i := 5) 6 rfl dX12_mend_104 ?_
  refine v_dup2 rfl rfl dX12_mend_106 ?_
  refine v_iaload kd_179 g16 (by decide) dX12_mend_107 ?_
  refine v_aload_n (f := 0) 1 rfl dX12_mend_108 ?_
  refine v_getR (kf := 30) (kz := 30) rfl kd_11 rfl ⟨by decide, by decide⟩ rfl wf_12_64 dX12_mend_109 ?_
  refine v_iload (i := 5) 6 rfl dX12_mend_112 ?_
  refine v_iaload kd_178 g16 (by decide) dX12_mend_114 ?_
  refine v_iload (i := 4) 5 rfl dX12_mend_115 ?_
  refine v_if_le (tgt := 124) dX12_mend_117 (by decide) (fun c17 => ?_) (fun c17 => ?_)
  · replace h := b_wp_t c17 h
    obtain ⟨g18, h⟩ := b_wp_g h
    refine v_iload_n (f := 3) 4 rfl dX12_mend_124 ?_
    refine v_iconst ⟨by decide, by decide⟩ dX12_mend_125 ?_
    refine v_iaddN g18 dX12_mend_126 ?_
    refine v_sub (ls2 := [(0, bR _), (1, bI _), (2, bI _), (3, bI _), (6, bI _)]) [1, 2, 3, 4, 0] rfl ?_
    exact t_X12_mend_b127 h
  · replace h := b_wp_f c17 h
    refine v_iload_n (f := 3) 4 rfl dX12_mend_120 ?_
    refine v_goto (tgt := 127) dX12_mend_121 (by decide) ?_
    refine v_sub (ls2 := [(0, bR _), (1, bI _), (2, bI _), (3, bI _), (6, bI _)]) [1, 2, 3, 4, 0] rfl ?_
    exact t_X12_mend_b127 h
noncomputable def F_X12_mend_s56 (v1 : Int) (v2 : Int) (v3 : Int) (M : bM) : Option ((Int × bM) ⊕ (bM)) :=
  if 2 ≤ v3 then (some (.inr (M))) else (b_bind (F_X12_leads v1 v3 M) (fun x12 => if x12 = 0 then (b_g (b_i32 (v3 + 1)) (some (.inl ((v3 + 1), M)))) else (b_bind (F_X12_mends v1 v3 M) (fun x14 => if 0 ≤ x12 then (F_X12_mend_b98 v1 v2 v3 x12 x14 x12 M) else (b_g (b_i32 (-x12)) (F_X12_mend_b98 v1 v2 v3 x12 x14 (-x12) M))))))
theorem t_X12_mend_s56 {l : Launch} {E : bE} {Q : (Int × bM) → Prop} {v1 : Int} {v2 : Int} {v3 : Int} {M : bM} (h : b_wp (F_X12_mend_s56 v1 v2 v3 M) (Sum.elim (A_X12_mend_56 l E Q v1 v2) (X_X12_mend_56 l E Q v1 v2))) : V l E xX12_mend (0, 0) 56 [(0, bR 11), (1, bI v1), (2, bI v2), (3, bI v3)] [] M (b_pI Q) := by
  unfold F_X12_mend_s56 at h
  refine v_iload_n (f := 3) 3 rfl dX12_mend_56 ?_
  refine v_iconst ⟨by decide, by decide⟩ dX12_mend_57 ?_
  refine v_icmp_ge (tgt := 146) dX12_mend_58 (by decide) (fun c11 => ?_) (fun c11 => ?_)
  · replace h := b_wp_t c11 h
    refine v_sub (ls2 := [(2, bI _)]) [2] rfl ?_
    exact h
  · replace h := b_wp_f c11 h
    refine v_aload_n (f := 0) 0 rfl dX12_mend_61 ?_
    refine v_iload_n (f := 1) 1 rfl dX12_mend_62 ?_
    refine v_iload_n (f := 3) 3 rfl dX12_mend_63 ?_
    refine v_cVIp (nA := 2) (As := [bI _, bI _]) (ix := 405) (cf_X12_leads (b_wp_b h)) rfl kd_11 rfl rfl wc_X12_leads wm_12_405 wi_X12_leads ws_X12_leads wn_12 ⟨by decide, by decide, by decide⟩ rfl ⟨by decide, by decide⟩ ⟨by decide, by decide⟩ (Nat.le_of_ble_eq_true rfl) dX12_mend_64 (fun x12 h => ?_)
    refine v_istore (i := 4) (ls' := [(4, bI _), (0, bR _), (1, bI _), (2, bI _), (3, bI _)]) (by decide) dX12_mend_67 rfl ?_
    refine v_iload (i := 4) 0 rfl dX12_mend_69 ?_
    refine v_if_ne (tgt := 77) dX12_mend_71 (by decide) (fun c13 => ?_) (fun c13 => ?_)
    · replace h := b_wp_f c13 h
      refine v_aload_n (f := 0) 1 rfl dX12_mend_77 ?_
      refine v_iload_n (f := 1) 2 rfl dX12_mend_78 ?_
      refine v_iload_n (f := 3) 4 rfl dX12_mend_79 ?_
      refine v_cVIp (nA := 2) (As := [bI _, bI _]) (ix := 411) (cf_X12_mends (b_wp_b h)) rfl kd_11 rfl rfl wc_X12_mends wm_12_411 wi_X12_mends ws_X12_mends wn_12 ⟨by decide, by decide, by decide⟩ rfl ⟨by decide, by decide⟩ ⟨by decide, by decide⟩ (Nat.le_of_ble_eq_true rfl) dX12_mend_80 (fun x14 h => ?_)
      refine v_istore (i := 5) (ls' := [(5, bI _), (4, bI _), (0, bR _), (1, bI _), (2, bI _), (3, bI _)]) (by decide) dX12_mend_83 rfl ?_
      refine v_iload (i := 4) 1 rfl dX12_mend_85 ?_
      refine v_if_ge (tgt := 96) dX12_mend_87 (by decide) (fun c15 => ?_) (fun c15 => ?_)
      · replace h := b_wp_t c15 h
        refine v_iload (i := 4) 1 rfl dX12_mend_96 ?_
        refine v_sub (ls2 := [(0, bR _), (1, bI _), (2, bI _), (3, bI _), (4, bI _), (5, bI _)]) [2, 3, 4, 5, 1, 0] rfl ?_
        exact t_X12_mend_b98 h
      · replace h := b_wp_f c15 h
        obtain ⟨g25, h⟩ := b_wp_g h
        refine v_iload (i := 4) 1 rfl dX12_mend_90 ?_
        refine v_inegN g25 dX12_mend_92 ?_
        refine v_goto (tgt := 98) dX12_mend_93 (by decide) ?_
        refine v_sub (ls2 := [(0, bR _), (1, bI _), (2, bI _), (3, bI _), (4, bI _), (5, bI _)]) [2, 3, 4, 5, 1, 0] rfl ?_
        exact t_X12_mend_b98 h
    · replace h := b_wp_t c13 h
      obtain ⟨g26, h⟩ := b_wp_g h
      refine v_goto (tgt := 140) dX12_mend_74 (by decide) ?_
      refine v_iincN (ls' := [(3, bI _), (4, bI _), (0, bR _), (1, bI _), (2, bI _)]) 4 rfl (by decide) g26 dX12_mend_140 rfl ?_
      refine v_goto (tgt := 56) dX12_mend_143 (by decide) ?_
      refine v_sub (ls2 := [(0, bR _), (1, bI _), (2, bI _), (3, bI _)]) [2, 3, 4, 0] rfl ?_
      exact h
theorem l_X12_mend_56 {l : Launch} {E : bE} {Q : (Int × bM) → Prop} {v1 : Int} {v2 : Int} {s : Int × bM} (h : b_wp (b_loop (fun t => F_X12_mend_s56 v1 v2 t.1 t.2) s) (X_X12_mend_56 l E Q v1 v2)) : A_X12_mend_56 l E Q v1 v2 s := b_loop_wp (fun t h => t_X12_mend_s56 h) s h
noncomputable def F_X12_mend_b146 (v2 : Int) (M : bM) : Option (Int × bM) :=
  some (v2, M)
theorem t_X12_mend_b146 {l : Launch} {E : bE} {Q : (Int × bM) → Prop} {v2 : Int} {M : bM} (h : b_wp (F_X12_mend_b146 v2 M) (Q)) : V l E xX12_mend (0, 0) 146 [(2, bI v2)] [] M (b_pI Q) := by
  unfold F_X12_mend_b146 at h
  refine v_iload_n (f := 2) 0 rfl dX12_mend_146 ?_
  refine v_ireturn rfl dX12_mend_147 ⟨by decide, by decide⟩ ?_
  exact ⟨_, rfl, h⟩
noncomputable def F_X12_mend_b54 (v1 : Int) (v2 : Int) (M : bM) : Option (Int × bM) :=
  b_bind (b_loop (fun t => F_X12_mend_s56 v1 v2 t.1 t.2) (0, M)) (fun t => F_X12_mend_b146 v2 t)
theorem t_X12_mend_b54 {l : Launch} {E : bE} {Q : (Int × bM) → Prop} {v1 : Int} {v2 : Int} {M : bM} (h : b_wp (F_X12_mend_b54 v1 v2 M) (Q)) : V l E xX12_mend (0, 0) 54 [(0, bR 11), (1, bI v1), (2, bI v2)] [] M (b_pI Q) := by
  unfold F_X12_mend_b54 at h
  refine v_iconst ⟨by decide, by decide⟩ dX12_mend_54 ?_
  refine v_istore_n (g := 3) (i := 3) (ls' := [(3, bI _), (0, bR _), (1, bI _), (2, bI _)]) rfl (by decide) dX12_mend_55 rfl ?_
  refine v_sub (ls2 := [(0, bR _), (1, bI _), (2, bI _), (3, bI _)]) [1, 2, 3, 0] rfl ?_
  refine l_X12_mend_56 (b_wp_m (fun t h => ?_) (b_wp_b h))
  show V l E xX12_mend (0, 0) 146 [(2, bI _)] [] _ (b_pI Q)
  exact t_X12_mend_b146 h
noncomputable def F_X12_mend (v1 : Int) (M : bM) : Option (Int × bM) :=
  b_bind (F_X12_bad v1 M) (fun x1 => if x1 = 0 then (b_bind (F_X12_error v1 M) (fun x3 => b_bind (b_loop (fun t => F_X12_mend_s22 v1 x3 t M) (0)) (Sum.elim (fun t => F_X12_mend_b54 v1 x3 M) some))) else (b_bind (F_X12_bad v1 M) (fun x27 => some (x27, M))))
theorem t_X12_mend {l : Launch} {E : bE} {Q : (Int × bM) → Prop} {v1 : Int} {M : bM} (h : b_wp (F_X12_mend v1 M) (Q)) : V l E xX12_mend (0, 0) 0 [(0, bR 11), (1, bI v1)] [] M (b_pI Q) := by
  unfold F_X12_mend at h
  refine v_aload_n (f := 0) 0 rfl dX12_mend_0 ?_
  refine v_iload_n (f := 1) 1 rfl dX12_mend_1 ?_
  refine v_cVIp (nA := 1) (As := [bI _]) (ix := 402) (cf_X12_bad (b_wp_b h)) rfl kd_11 rfl rfl wc_X12_bad wm_12_402 wi_X12_bad ws_X12_bad wn_12 ⟨by decide, by decide, by decide⟩ rfl ⟨by decide, by decide⟩ ⟨by decide, by decide⟩ (Nat.le_of_ble_eq_true rfl) dX12_mend_2 (fun x1 h => ?_)
  refine v_if_eq (tgt := 14) dX12_mend_5 (by decide) (fun c2 => ?_) (fun c2 => ?_)
  · replace h := b_wp_t c2 h
    refine v_aload_n (f := 0) 0 rfl dX12_mend_14 ?_
    refine v_iload_n (f := 1) 1 rfl dX12_mend_15 ?_
    refine v_cVIp (nA := 1) (As := [bI _]) (ix := 408) (cf_X12_error (b_wp_b h)) rfl kd_11 rfl rfl wc_X12_error wm_12_408 wi_X12_error ws_X12_error wn_12 ⟨by decide, by decide, by decide⟩ rfl ⟨by decide, by decide⟩ ⟨by decide, by decide⟩ (Nat.le_of_ble_eq_true rfl) dX12_mend_16 (fun x3 h => ?_)
    refine v_istore_n (g := 2) (i := 2) (ls' := [(2, bI _), (0, bR _), (1, bI _)]) rfl (by decide) dX12_mend_19 rfl ?_
    refine v_iconst ⟨by decide, by decide⟩ dX12_mend_20 ?_
    refine v_istore_n (g := 3) (i := 3) (ls' := [(3, bI _), (2, bI _), (0, bR _), (1, bI _)]) rfl (by decide) dX12_mend_21 rfl ?_
    refine v_sub (ls2 := [(0, bR _), (1, bI _), (2, bI _), (3, bI _)]) [2, 3, 1, 0] rfl ?_
    refine l_X12_mend_22 (b_wp_m (fun t h => ?_) (b_wp_b h))
    cases t with
    | inr o => exact h
    | inl t =>
      show V l E xX12_mend (0, 0) 54 [(0, bR 11), (1, bI _), (2, bI _)] [] _ (b_pI Q)
      replace h := b_wp_inl h
      exact t_X12_mend_b54 h
  · replace h := b_wp_f c2 h
    refine v_aload_n (f := 0) 0 rfl dX12_mend_8 ?_
    refine v_iload_n (f := 1) 1 rfl dX12_mend_9 ?_
    refine v_cVIp (nA := 1) (As := [bI _]) (ix := 402) (cf_X12_bad (b_wp_b h)) rfl kd_11 rfl rfl wc_X12_bad wm_12_402 wi_X12_bad ws_X12_bad wn_12 ⟨by decide, by decide, by decide⟩ rfl ⟨by decide, by decide⟩ ⟨by decide, by decide⟩ (Nat.le_of_ble_eq_true rfl) dX12_mend_10 (fun x27 h => ?_)
    refine v_ireturn rfl dX12_mend_13 ⟨by decide, by decide⟩ ?_
    exact ⟨_, rfl, h⟩
theorem cf_X12_mend {l : Launch} {E : bE} {M : bM} {v1 : Int} {Q : (Int × bM) → Prop} (h : b_wp (F_X12_mend v1 M) Q) : b_C l E xX12_mend yX12_mend [bR 11, bI v1] M (b_pI Q) := b_met (by decide) ⟨rfl, rfl⟩ (Nat.le_of_ble_eq_true rfl) (fun _ _ => t_X12_mend h)
abbrev xX12_walk : bX := ("BurntHallModel", prog_14_method_45_code, 7, (Option.none : Option Jvm.ClassFile.FieldType), b_rm 1 0 0, 0, "walk")
abbrev yX12_walk : MethodName := ⟨"BurntHallModel", "walk", "(II)V"⟩
theorem dX12_walk_0 : decode prog_14_method_45_code 0 = .ok (.aload_n 0, 1) := by decide +kernel
theorem dX12_walk_1 : decode prog_14_method_45_code 1 = .ok (.getfield 58, 3) := by decide +kernel
theorem dX12_walk_4 : decode prog_14_method_45_code 4 = .ok (.iload_n 1, 1) := by decide +kernel
theorem dX12_walk_5 : decode prog_14_method_45_code 5 = .ok (.iaload, 1) := by decide +kernel
theorem dX12_walk_6 : decode prog_14_method_45_code 6 = .ok (.istore_n 3, 1) := by decide +kernel
theorem dX12_walk_7 : decode prog_14_method_45_code 7 = .ok (.aload_n 0, 1) := by decide +kernel
theorem dX12_walk_8 : decode prog_14_method_45_code 8 = .ok (.getfield 61, 3) := by decide +kernel
theorem dX12_walk_11 : decode prog_14_method_45_code 11 = .ok (.iload_n 1, 1) := by decide +kernel
theorem dX12_walk_12 : decode prog_14_method_45_code 12 = .ok (.iaload, 1) := by decide +kernel
theorem dX12_walk_13 : decode prog_14_method_45_code 13 = .ok (.istore 4, 2) := by decide +kernel
theorem dX12_walk_15 : decode prog_14_method_45_code 15 = .ok (.iconst 0, 1) := by decide +kernel
theorem dX12_walk_16 : decode prog_14_method_45_code 16 = .ok (.istore 5, 2) := by decide +kernel
theorem dX12_walk_18 : decode prog_14_method_45_code 18 = .ok (.iload 5, 2) := by decide +kernel
theorem dX12_walk_20 : decode prog_14_method_45_code 20 = .ok (.aload_n 0, 1) := by decide +kernel
theorem dX12_walk_21 : decode prog_14_method_45_code 21 = .ok (.getfield 55, 3) := by decide +kernel
theorem dX12_walk_24 : decode prog_14_method_45_code 24 = .ok (.iload_n 1, 1) := by decide +kernel
theorem dX12_walk_25 : decode prog_14_method_45_code 25 = .ok (.iaload, 1) := by decide +kernel
theorem dX12_walk_26 : decode prog_14_method_45_code 26 = .ok (.if_icmp .gt 146, 3) := by decide +kernel
theorem dX12_walk_29 : decode prog_14_method_45_code 29 = .ok (.aload_n 0, 1) := by decide +kernel
theorem dX12_walk_30 : decode prog_14_method_45_code 30 = .ok (.getfield 70, 3) := by decide +kernel
theorem dX12_walk_33 : decode prog_14_method_45_code 33 = .ok (.iload_n 2, 1) := by decide +kernel
theorem dX12_walk_34 : decode prog_14_method_45_code 34 = .ok (.iload 5, 2) := by decide +kernel
theorem dX12_walk_36 : decode prog_14_method_45_code 36 = .ok (.iadd, 1) := by decide +kernel
theorem dX12_walk_37 : decode prog_14_method_45_code 37 = .ok (.iload_n 3, 1) := by decide +kernel
theorem dX12_walk_38 : decode prog_14_method_45_code 38 = .ok (.iastore, 1) := by decide +kernel
theorem dX12_walk_39 : decode prog_14_method_45_code 39 = .ok (.aload_n 0, 1) := by decide +kernel
theorem dX12_walk_40 : decode prog_14_method_45_code 40 = .ok (.getfield 73, 3) := by decide +kernel
theorem dX12_walk_43 : decode prog_14_method_45_code 43 = .ok (.iload_n 2, 1) := by decide +kernel
theorem dX12_walk_44 : decode prog_14_method_45_code 44 = .ok (.iload 5, 2) := by decide +kernel
theorem dX12_walk_46 : decode prog_14_method_45_code 46 = .ok (.iadd, 1) := by decide +kernel
theorem dX12_walk_47 : decode prog_14_method_45_code 47 = .ok (.iload 4, 2) := by decide +kernel
theorem dX12_walk_49 : decode prog_14_method_45_code 49 = .ok (.iastore, 1) := by decide +kernel
theorem dX12_walk_50 : decode prog_14_method_45_code 50 = .ok (.iload 5, 2) := by decide +kernel
theorem dX12_walk_52 : decode prog_14_method_45_code 52 = .ok (.aload_n 0, 1) := by decide +kernel
theorem dX12_walk_53 : decode prog_14_method_45_code 53 = .ok (.getfield 55, 3) := by decide +kernel
theorem dX12_walk_56 : decode prog_14_method_45_code 56 = .ok (.iload_n 1, 1) := by decide +kernel
theorem dX12_walk_57 : decode prog_14_method_45_code 57 = .ok (.iaload, 1) := by decide +kernel
theorem dX12_walk_58 : decode prog_14_method_45_code 58 = .ok (.if_icmp .ne 4, 3) := by decide +kernel
theorem dX12_walk_61 : decode prog_14_method_45_code 61 = .ok (.return_, 1) := by decide +kernel
theorem dX12_walk_62 : decode prog_14_method_45_code 62 = .ok (.bipush 12, 2) := by decide +kernel
theorem dX12_walk_64 : decode prog_14_method_45_code 64 = .ok (.iload_n 1, 1) := by decide +kernel
theorem dX12_walk_65 : decode prog_14_method_45_code 65 = .ok (.imul, 1) := by decide +kernel
theorem dX12_walk_66 : decode prog_14_method_45_code 66 = .ok (.iload 5, 2) := by decide +kernel
theorem dX12_walk_68 : decode prog_14_method_45_code 68 = .ok (.iadd, 1) := by decide +kernel
theorem dX12_walk_69 : decode prog_14_method_45_code 69 = .ok (.istore 6, 2) := by decide +kernel
theorem dX12_walk_71 : decode prog_14_method_45_code 71 = .ok (.iload_n 3, 1) := by decide +kernel
theorem dX12_walk_72 : decode prog_14_method_45_code 72 = .ok (.aload_n 0, 1) := by decide +kernel
theorem dX12_walk_73 : decode prog_14_method_45_code 73 = .ok (.getfield 64, 3) := by decide +kernel
theorem dX12_walk_76 : decode prog_14_method_45_code 76 = .ok (.iload 6, 2) := by decide +kernel
theorem dX12_walk_78 : decode prog_14_method_45_code 78 = .ok (.iaload, 1) := by decide +kernel
theorem dX12_walk_79 : decode prog_14_method_45_code 79 = .ok (.iconst 1, 1) := by decide +kernel
theorem dX12_walk_80 : decode prog_14_method_45_code 80 = .ok (.if_icmp .ne 13, 3) := by decide +kernel
theorem dX12_walk_83 : decode prog_14_method_45_code 83 = .ok (.aload_n 0, 1) := by decide +kernel
theorem dX12_walk_84 : decode prog_14_method_45_code 84 = .ok (.getfield 67, 3) := by decide +kernel
theorem dX12_walk_87 : decode prog_14_method_45_code 87 = .ok (.iload 6, 2) := by decide +kernel
theorem dX12_walk_89 : decode prog_14_method_45_code 89 = .ok (.iaload, 1) := by decide +kernel
theorem dX12_walk_90 : decode prog_14_method_45_code 90 = .ok (.goto 26, 3) := by decide +kernel
theorem dX12_walk_93 : decode prog_14_method_45_code 93 = .ok (.aload_n 0, 1) := by decide +kernel
theorem dX12_walk_94 : decode prog_14_method_45_code 94 = .ok (.getfield 64, 3) := by decide +kernel
theorem dX12_walk_97 : decode prog_14_method_45_code 97 = .ok (.iload 6, 2) := by decide +kernel
theorem dX12_walk_99 : decode prog_14_method_45_code 99 = .ok (.iaload, 1) := by decide +kernel
theorem dX12_walk_100 : decode prog_14_method_45_code 100 = .ok (.iconst 3, 1) := by decide +kernel
theorem dX12_walk_101 : decode prog_14_method_45_code 101 = .ok (.if_icmp .ne 14, 3) := by decide +kernel
theorem dX12_walk_104 : decode prog_14_method_45_code 104 = .ok (.aload_n 0, 1) := by decide +kernel
theorem dX12_walk_105 : decode prog_14_method_45_code 105 = .ok (.getfield 67, 3) := by decide +kernel
theorem dX12_walk_108 : decode prog_14_method_45_code 108 = .ok (.iload 6, 2) := by decide +kernel
theorem dX12_walk_110 : decode prog_14_method_45_code 110 = .ok (.iaload, 1) := by decide +kernel
theorem dX12_walk_111 : decode prog_14_method_45_code 111 = .ok (.ineg, 1) := by decide +kernel
theorem dX12_walk_112 : decode prog_14_method_45_code 112 = .ok (.goto 4, 3) := by decide +kernel
theorem dX12_walk_115 : decode prog_14_method_45_code 115 = .ok (.iconst 0, 1) := by decide +kernel
theorem dX12_walk_116 : decode prog_14_method_45_code 116 = .ok (.iadd, 1) := by decide +kernel
theorem dX12_walk_117 : decode prog_14_method_45_code 117 = .ok (.istore_n 3, 1) := by decide +kernel
theorem dX12_walk_118 : decode prog_14_method_45_code 118 = .ok (.iload 4, 2) := by decide +kernel
theorem dX12_walk_120 : decode prog_14_method_45_code 120 = .ok (.aload_n 0, 1) := by decide +kernel
theorem dX12_walk_121 : decode prog_14_method_45_code 121 = .ok (.getfield 64, 3) := by decide +kernel
theorem dX12_walk_124 : decode prog_14_method_45_code 124 = .ok (.iload 6, 2) := by decide +kernel
theorem dX12_walk_126 : decode prog_14_method_45_code 126 = .ok (.iaload, 1) := by decide +kernel
theorem dX12_walk_127 : decode prog_14_method_45_code 127 = .ok (.ifCond .ne 13, 3) := by decide +kernel
theorem dX12_walk_130 : decode prog_14_method_45_code 130 = .ok (.aload_n 0, 1) := by decide +kernel
theorem dX12_walk_131 : decode prog_14_method_45_code 131 = .ok (.getfield 67, 3) := by decide +kernel
theorem dX12_walk_134 : decode prog_14_method_45_code 134 = .ok (.iload 6, 2) := by decide +kernel
theorem dX12_walk_136 : decode prog_14_method_45_code 136 = .ok (.iaload, 1) := by decide +kernel
theorem dX12_walk_137 : decode prog_14_method_45_code 137 = .ok (.goto 26, 3) := by decide +kernel
theorem dX12_walk_140 : decode prog_14_method_45_code 140 = .ok (.aload_n 0, 1) := by decide +kernel
theorem dX12_walk_141 : decode prog_14_method_45_code 141 = .ok (.getfield 64, 3) := by decide +kernel
theorem dX12_walk_144 : decode prog_14_method_45_code 144 = .ok (.iload 6, 2) := by decide +kernel
theorem dX12_walk_146 : decode prog_14_method_45_code 146 = .ok (.iaload, 1) := by decide +kernel
theorem dX12_walk_147 : decode prog_14_method_45_code 147 = .ok (.iconst 2, 1) := by decide +kernel
theorem dX12_walk_148 : decode prog_14_method_45_code 148 = .ok (.if_icmp .ne 14, 3) := by decide +kernel
theorem dX12_walk_151 : decode prog_14_method_45_code 151 = .ok (.aload_n 0, 1) := by decide +kernel
theorem dX12_walk_152 : decode prog_14_method_45_code 152 = .ok (.getfield 67, 3) := by decide +kernel
theorem dX12_walk_155 : decode prog_14_method_45_code 155 = .ok (.iload 6, 2) := by decide +kernel
theorem dX12_walk_157 : decode prog_14_method_45_code 157 = .ok (.iaload, 1) := by decide +kernel
theorem dX12_walk_158 : decode prog_14_method_45_code 158 = .ok (.ineg, 1) := by decide +kernel
theorem dX12_walk_159 : decode prog_14_method_45_code 159 = .ok (.goto 4, 3) := by decide +kernel
theorem dX12_walk_162 : decode prog_14_method_45_code 162 = .ok (.iconst 0, 1) := by decide +kernel
theorem dX12_walk_163 : decode prog_14_method_45_code 163 = .ok (.iadd, 1) := by decide +kernel
theorem dX12_walk_164 : decode prog_14_method_45_code 164 = .ok (.istore 4, 2) := by decide +kernel
theorem dX12_walk_166 : decode prog_14_method_45_code 166 = .ok (.iinc 5 1, 3) := by decide +kernel
theorem dX12_walk_169 : decode prog_14_method_45_code 169 = .ok (.goto (-151), 3) := by decide +kernel
theorem dX12_walk_172 : decode prog_14_method_45_code 172 = .ok (.return_, 1) := by decide +kernel
abbrev A_X12_walk_18 (l : Launch) (E : bE) (Q : bM → Prop) (v1 : Int) (v2 : Int) : (Int × Int × Int × bM) → Prop := (fun t : Int × Int × Int × bM => V l E xX12_walk (0, 0) 18 [(0, bR 11), (1, bI v1), (2, bI v2), (3, bI (t.1)), (4, bI (t.2.1)), (5, bI (t.2.2.1))] [] t.2.2.2 (b_pV Q))
abbrev X_X12_walk_18 (l : Launch) (E : bE) (Q : bM → Prop) (v1 : Int) (v2 : Int) : ((bM) ⊕ bM) → Prop := (Sum.elim (fun t : bM => V l E xX12_walk (0, 0) 172 [] [] t (b_pV Q)) Q)
noncomputable def F_X12_walk_b163 (v1 : Int) (v2 : Int) (v3 : Int) (v5 : Int) (u0 : Int) (u1 : Int) (M : bM) : Option ((Int × Int × Int × bM) ⊕ ((bM) ⊕ bM)) :=
  b_g ((b_i32 (u0 + u1)) ∧ (b_i32 (v5 + 1))) (some (.inl (v3, (u0 + u1), (v5 + 1), M)))
theorem t_X12_walk_b163 {l : Launch} {E : bE} {Q : bM → Prop} {v1 : Int} {v2 : Int} {v3 : Int} {v5 : Int} {u0 : Int} {u1 : Int} {M : bM} (h : b_wp (F_X12_walk_b163 v1 v2 v3 v5 u0 u1 M) (Sum.elim (A_X12_walk_18 l E Q v1 v2) (X_X12_walk_18 l E Q v1 v2))) : V l E xX12_walk (0, 0) 163 [(0, bR 11), (1, bI v1), (2, bI v2), (3, bI v3), (5, bI v5)] [bI u1, bI u0] M (b_pV Q) := by
  unfold F_X12_walk_b163 at h
  obtain ⟨⟨g27, g28⟩, h⟩ := b_wp_g h
  refine v_iaddN g27 dX12_walk_163 ?_
  refine v_istore (i := 4) (ls' := [(4, bI _), (0, bR _), (1, bI _), (2, bI _), (3, bI _), (5, bI _)]) (by decide) dX12_walk_164 rfl ?_
  refine v_iincN (ls' := [(5, bI _), (4, bI _), (0, bR _), (1, bI _), (2, bI _), (3, bI _)]) 5 rfl (by decide) g28 dX12_walk_166 rfl ?_
  refine v_goto (tgt := 18) dX12_walk_169 (by decide) ?_
  refine v_sub (ls2 := [(0, bR _), (1, bI _), (2, bI _), (3, bI _), (4, bI _), (5, bI _)]) [2, 3, 4, 5, 1, 0] rfl ?_
  exact h
noncomputable def F_X12_walk_b116 (v1 : Int) (v2 : Int) (v4 : Int) (v5 : Int) (v6 : Int) (u0 : Int) (u1 : Int) (M : bM) : Option ((Int × Int × Int × bM) ⊕ ((bM) ⊕ bM)) :=
  b_g ((b_i32 (u0 + u1)) ∧ (0 ≤ v6 ∧ v6 < 732)) (if (M 178 v6) = 0 then (b_g (0 ≤ v6 ∧ v6 < 732) (F_X12_walk_b163 v1 v2 (u0 + u1) v5 v4 (M 179 v6) M)) else (b_g (0 ≤ v6 ∧ v6 < 732) (if (M 178 v6) = 2 then (b_g ((0 ≤ v6 ∧ v6 < 732) ∧ (b_i32 (-(M 179 v6)))) (F_X12_walk_b163 v1 v2 (u0 + u1) v5 v4 (-(M 179 v6)) M)) else (F_X12_walk_b163 v1 v2 (u0 + u1) v5 v4 0 M))))
theorem t_X12_walk_b116 {l : Launch} {E : bE} {Q : bM → Prop} {v1 : Int} {v2 : Int} {v4 : Int} {v5 : Int} {v6 : Int} {u0 : Int} {u1 : Int} {M : bM} (h : b_wp (F_X12_walk_b116 v1 v2 v4 v5 v6 u0 u1 M) (Sum.elim (A_X12_walk_18 l E Q v1 v2) (X_X12_walk_18 l E Q v1 v2))) : V l E xX12_walk (0, 0) 116 [(0, bR 11), (1, bI v1), (2, bI v2), (4, bI v4), (5, bI v5), (6, bI v6)] [bI u1, bI u0] M (b_pV Q) := by
  unfold F_X12_walk_b116 at h
  obtain ⟨⟨g22, g23⟩, h⟩ := b_wp_g h
  refine v_iaddN g22 dX12_walk_116 ?_
  refine v_istore_n (g := 3) (i := 3) (ls' := [(3, bI _), (0, bR _), (1, bI _), (2, bI _), (4, bI _), (5, bI _), (6, bI _)]) rfl (by decide) dX12_walk_117 rfl ?_
  refine v_iload (i := 4) 4 rfl dX12_walk_118 ?_
  refine v_aload_n (f := 0) 1 rfl dX12_walk_120 ?_
  refine v_getR (kf := 30) (kz := 30) rfl kd_11 rfl ⟨by decide, by decide⟩ rfl wf_12_64 dX12_walk_121 ?_
  refine v_iload (i := 6) 6 rfl dX12_walk_124 ?_
  refine v_iaload kd_178 g23 (by decide) dX12_walk_126 ?_
  refine v_if_ne (tgt := 140) dX12_walk_127 (by decide) (fun c24 => ?_) (fun c24 => ?_)
  · replace h := b_wp_f c24 h
    obtain ⟨g25, h⟩ := b_wp_g h
    refine v_aload_n (f := 0) 1 rfl dX12_walk_140 ?_
    refine v_getR (kf := 30) (kz := 30) rfl kd_11 rfl ⟨by decide, by decide⟩ rfl wf_12_64 dX12_walk_141 ?_
    refine v_iload (i := 6) 6 rfl dX12_walk_144 ?_
    refine v_iaload kd_178 g25 (by decide) dX12_walk_146 ?_
    refine v_iconst ⟨by decide, by decide⟩ dX12_walk_147 ?_
    refine v_icmp_ne (tgt := 162) dX12_walk_148 (by decide) (fun c26 => ?_) (fun c26 => ?_)
    · replace h := b_wp_f c26 h
      refine v_iconst ⟨by decide, by decide⟩ dX12_walk_162 ?_
      refine v_sub (ls2 := [(0, bR _), (1, bI _), (2, bI _), (3, bI _), (5, bI _)]) [1, 2, 3, 0, 5] rfl ?_
      exact t_X12_walk_b163 h
    · replace h := b_wp_t c26 h
      obtain ⟨⟨g29, g30⟩, h⟩ := b_wp_g h
      refine v_aload_n (f := 0) 1 rfl dX12_walk_151 ?_
      refine v_getR (kf := 31) (kz := 31) rfl kd_11 rfl ⟨by decide, by decide⟩ rfl wf_12_67 dX12_walk_152 ?_
      refine v_iload (i := 6) 6 rfl dX12_walk_155 ?_
      refine v_iaload kd_179 g29 (by decide) dX12_walk_157 ?_
      refine v_inegN g30 dX12_walk_158 ?_
      refine v_goto (tgt := 163) dX12_walk_159 (by decide) ?_
      refine v_sub (ls2 := [(0, bR _), (1, bI _), (2, bI _), (3, bI _), (5, bI _)]) [1, 2, 3, 0, 5] rfl ?_
      exact t_X12_walk_b163 h
  · replace h := b_wp_t c24 h
    obtain ⟨g31, h⟩ := b_wp_g h
    refine v_aload_n (f := 0) 1 rfl dX12_walk_130 ?_
    refine v_getR (kf := 31) (kz := 31) rfl kd_11 rfl ⟨by decide, by decide⟩ rfl wf_12_67 dX12_walk_131 ?_
    refine v_iload (i := 6) 6 rfl dX12_walk_134 ?_
    refine v_iaload kd_179 g31 (by decide) dX12_walk_136 ?_
    refine v_goto (tgt := 163) dX12_walk_137 (by decide) ?_
    refine v_sub (ls2 := [(0, bR _), (1, bI _), (2, bI _), (3, bI _), (5, bI _)]) [1, 2, 3, 0, 5] rfl ?_
    exact t_X12_walk_b163 h
noncomputable def F_X12_walk_s18 (v1 : Int) (v2 : Int) (v3 : Int) (v4 : Int) (v5 : Int) (M : bM) : Option ((Int × Int × Int × bM) ⊕ ((bM) ⊕ bM)) :=
  b_g (0 ≤ v1 ∧ v1 < 60) (if (M 175 v1) < v5 then (some (.inr (.inl (M)))) else (b_g ((b_i32 (v2 + v5)) ∧ (0 ≤ (v2 + v5) ∧ (v2 + v5) < 26)) (b_let (b_up M 180 (v2 + v5) v3) (fun M9 => b_g ((b_i32 (v2 + v5)) ∧ (0 ≤ (v2 + v5) ∧ (v2 + v5) < 26)) (b_let (b_up M9 181 (v2 + v5) v4) (fun M12 => b_g (0 ≤ v1 ∧ v1 < 60) (if v5 = (M12 175 v1) then (some (.inr (.inr M12))) else (b_g ((b_i32 (12 * v1)) ∧ (b_i32 ((12 * v1) + v5))) (b_let (((12 * v1) + v5)) (fun y17 => b_g (0 ≤ y17 ∧ y17 < 732) (if (M12 178 y17) = 1 then (b_g (0 ≤ y17 ∧ y17 < 732) (F_X12_walk_b116 v1 v2 v4 v5 y17 v3 (M12 179 y17) M12)) else (b_g (0 ≤ y17 ∧ y17 < 732) (if (M12 178 y17) = 3 then (b_g ((0 ≤ y17 ∧ y17 < 732) ∧ (b_i32 (-(M12 179 y17)))) (F_X12_walk_b116 v1 v2 v4 v5 y17 v3 (-(M12 179 y17)) M12)) else (F_X12_walk_b116 v1 v2 v4 v5 y17 v3 0 M12))))))))))))))
theorem t_X12_walk_s18 {l : Launch} {E : bE} {Q : bM → Prop} {v1 : Int} {v2 : Int} {v3 : Int} {v4 : Int} {v5 : Int} {M : bM} (h : b_wp (F_X12_walk_s18 v1 v2 v3 v4 v5 M) (Sum.elim (A_X12_walk_18 l E Q v1 v2) (X_X12_walk_18 l E Q v1 v2))) : V l E xX12_walk (0, 0) 18 [(0, bR 11), (1, bI v1), (2, bI v2), (3, bI v3), (4, bI v4), (5, bI v5)] [] M (b_pV Q) := by
  unfold F_X12_walk_s18 at h
  obtain ⟨g5, h⟩ := b_wp_g h
  refine v_iload (i := 5) 5 rfl dX12_walk_18 ?_
  refine v_aload_n (f := 0) 0 rfl dX12_walk_20 ?_
  refine v_getR (kf := 27) (kz := 27) rfl kd_11 rfl ⟨by decide, by decide⟩ rfl wf_12_55 dX12_walk_21 ?_
  refine v_iload_n (f := 1) 1 rfl dX12_walk_24 ?_
  refine v_iaload kd_175 g5 (by decide) dX12_walk_25 ?_
  refine v_icmp_gt (tgt := 172) dX12_walk_26 (by decide) (fun c6 => ?_) (fun c6 => ?_)
  · replace h := b_wp_t c6 h
    refine v_sub (ls2 := []) [] rfl ?_
    exact h
  · replace h := b_wp_f c6 h
    obtain ⟨⟨g7, g8⟩, h⟩ := b_wp_g h
    refine v_aload_n (f := 0) 0 rfl dX12_walk_29 ?_
    refine v_getR (kf := 33) (kz := 33) rfl kd_11 rfl ⟨by decide, by decide⟩ rfl wf_12_70 dX12_walk_30 ?_
    refine v_iload_n (f := 2) 2 rfl dX12_walk_33 ?_
    refine v_iload (i := 5) 5 rfl dX12_walk_34 ?_
    refine v_iaddN g7 dX12_walk_36 ?_
    refine v_iload_n (f := 3) 3 rfl dX12_walk_37 ?_
    refine v_iastore kd_180 g8 (by decide) dX12_walk_38 ?_
    replace h := b_wp_l h
    obtain ⟨⟨g10, g11⟩, h⟩ := b_wp_g h
    refine v_aload_n (f := 0) 0 rfl dX12_walk_39 ?_
    refine v_getR (kf := 34) (kz := 34) rfl kd_11 rfl ⟨by decide, by decide⟩ rfl wf_12_73 dX12_walk_40 ?_
    refine v_iload_n (f := 2) 2 rfl dX12_walk_43 ?_
    refine v_iload (i := 5) 5 rfl dX12_walk_44 ?_
    refine v_iaddN g10 dX12_walk_46 ?_
    refine v_iload (i := 4) 4 rfl dX12_walk_47 ?_
    refine v_iastore kd_181 g11 (by decide) dX12_walk_49 ?_
    replace h := b_wp_l h
    obtain ⟨g13, h⟩ := b_wp_g h
    refine v_iload (i := 5) 5 rfl dX12_walk_50 ?_
    refine v_aload_n (f := 0) 0 rfl dX12_walk_52 ?_
    refine v_getR (kf := 27) (kz := 27) rfl kd_11 rfl ⟨by decide, by decide⟩ rfl wf_12_55 dX12_walk_53 ?_
    refine v_iload_n (f := 1) 1 rfl dX12_walk_56 ?_
    refine v_iaload kd_175 g13 (by decide) dX12_walk_57 ?_
    refine v_icmp_ne (tgt := 62) dX12_walk_58 (by decide) (fun c14 => ?_) (fun c14 => ?_)
    · replace h := b_wp_f c14 h
      obtain ⟨⟨g15, g16⟩, h⟩ := b_wp_g h
      refine v_bipush ⟨by decide, by decide⟩ (by decide) dX12_walk_62 ?_
      refine v_iload_n (f := 1) 1 rfl dX12_walk_64 ?_
      refine v_imulN g15 dX12_walk_65 ?_
      refine v_iload (i := 5) 5 rfl dX12_walk_66 ?_
      refine v_iaddN g16 dX12_walk_68 ?_
      replace h := b_wp_l h
      obtain ⟨g18, h⟩ := b_wp_g h
      refine v_istore (i := 6) (ls' := [(6, bI _), (0, bR _), (1, bI _), (2, bI _), (3, bI _), (4, bI _), (5, bI _)]) (by decide) dX12_walk_69 rfl ?_
      refine v_iload_n (f := 3) 4 rfl dX12_walk_71 ?_
      refine v_aload_n (f := 0) 1 rfl dX12_walk_72 ?_
      refine v_getR (kf := 30) (kz := 30) rfl kd_11 rfl ⟨by decide, by decide⟩ rfl wf_12_64 dX12_walk_73 ?_
      refine v_iload (i := 6) 0 rfl dX12_walk_76 ?_
      refine v_iaload kd_178 g18 (by decide) dX12_walk_78 ?_
      refine v_iconst ⟨by decide, by decide⟩ dX12_walk_79 ?_
      refine v_icmp_ne (tgt := 93) dX12_walk_80 (by decide) (fun c19 => ?_) (fun c19 => ?_)
      · replace h := b_wp_f c19 h
        obtain ⟨g20, h⟩ := b_wp_g h
        refine v_aload_n (f := 0) 1 rfl dX12_walk_93 ?_
        refine v_getR (kf := 30) (kz := 30) rfl kd_11 rfl ⟨by decide, by decide⟩ rfl wf_12_64 dX12_walk_94 ?_
        refine v_iload (i := 6) 0 rfl dX12_walk_97 ?_
        refine v_iaload kd_178 g20 (by decide) dX12_walk_99 ?_
        refine v_iconst ⟨by decide, by decide⟩ dX12_walk_100 ?_
        refine v_icmp_ne (tgt := 115) dX12_walk_101 (by decide) (fun c21 => ?_) (fun c21 => ?_)
        · replace h := b_wp_f c21 h
          refine v_iconst ⟨by decide, by decide⟩ dX12_walk_115 ?_
          refine v_sub (ls2 := [(0, bR _), (1, bI _), (2, bI _), (4, bI _), (5, bI _), (6, bI _)]) [1, 2, 3, 5, 6, 0] rfl ?_
          exact t_X12_walk_b116 h
        · replace h := b_wp_t c21 h
          obtain ⟨⟨g32, g33⟩, h⟩ := b_wp_g h
          refine v_aload_n (f := 0) 1 rfl dX12_walk_104 ?_
          refine v_getR (kf := 31) (kz := 31) rfl kd_11 rfl ⟨by decide, by decide⟩ rfl wf_12_67 dX12_walk_105 ?_
          refine v_iload (i := 6) 0 rfl dX12_walk_108 ?_
          refine v_iaload kd_179 g32 (by decide) dX12_walk_110 ?_
          refine v_inegN g33 dX12_walk_111 ?_
          refine v_goto (tgt := 116) dX12_walk_112 (by decide) ?_
          refine v_sub (ls2 := [(0, bR _), (1, bI _), (2, bI _), (4, bI _), (5, bI _), (6, bI _)]) [1, 2, 3, 5, 6, 0] rfl ?_
          exact t_X12_walk_b116 h
      · replace h := b_wp_t c19 h
        obtain ⟨g34, h⟩ := b_wp_g h
        refine v_aload_n (f := 0) 1 rfl dX12_walk_83 ?_
        refine v_getR (kf := 31) (kz := 31) rfl kd_11 rfl ⟨by decide, by decide⟩ rfl wf_12_67 dX12_walk_84 ?_
        refine v_iload (i := 6) 0 rfl dX12_walk_87 ?_
        refine v_iaload kd_179 g34 (by decide) dX12_walk_89 ?_
        refine v_goto (tgt := 116) dX12_walk_90 (by decide) ?_
        refine v_sub (ls2 := [(0, bR _), (1, bI _), (2, bI _), (4, bI _), (5, bI _), (6, bI _)]) [1, 2, 3, 5, 6, 0] rfl ?_
        exact t_X12_walk_b116 h
    · replace h := b_wp_t c14 h
      refine v_return rfl dX12_walk_61 ⟨by decide, by decide⟩ ?_
      exact ⟨rfl, h⟩
theorem l_X12_walk_18 {l : Launch} {E : bE} {Q : bM → Prop} {v1 : Int} {v2 : Int} {s : Int × Int × Int × bM} (h : b_wp (b_loop (fun t => F_X12_walk_s18 v1 v2 t.1 t.2.1 t.2.2.1 t.2.2.2) s) (X_X12_walk_18 l E Q v1 v2)) : A_X12_walk_18 l E Q v1 v2 s := b_loop_wp (fun t h => t_X12_walk_s18 h) s h
noncomputable def F_X12_walk_b172 (M : bM) : Option (bM) :=
  some M
theorem t_X12_walk_b172 {l : Launch} {E : bE} {Q : bM → Prop} {M : bM} (h : b_wp (F_X12_walk_b172 M) (Q)) : V l E xX12_walk (0, 0) 172 [] [] M (b_pV Q) := by
  unfold F_X12_walk_b172 at h
  refine v_return rfl dX12_walk_172 ⟨by decide, by decide⟩ ?_
  exact ⟨rfl, h⟩
noncomputable def F_X12_walk (v1 : Int) (v2 : Int) (M : bM) : Option (bM) :=
  b_g (0 ≤ v1 ∧ v1 < 60) (b_let ((M 176 v1)) (fun y2 => b_g (0 ≤ v1 ∧ v1 < 60) (b_let ((M 177 v1)) (fun y4 => b_bind (b_loop (fun t => F_X12_walk_s18 v1 v2 t.1 t.2.1 t.2.2.1 t.2.2.2) (y2, y4, 0, M)) (Sum.elim (fun t => F_X12_walk_b172 t) some)))))
theorem t_X12_walk {l : Launch} {E : bE} {Q : bM → Prop} {v1 : Int} {v2 : Int} {M : bM} (h : b_wp (F_X12_walk v1 v2 M) (Q)) : V l E xX12_walk (0, 0) 0 [(0, bR 11), (1, bI v1), (2, bI v2)] [] M (b_pV Q) := by
  unfold F_X12_walk at h
  obtain ⟨g1, h⟩ := b_wp_g h
  refine v_aload_n (f := 0) 0 rfl dX12_walk_0 ?_
  refine v_getR (kf := 28) (kz := 28) rfl kd_11 rfl ⟨by decide, by decide⟩ rfl wf_12_58 dX12_walk_1 ?_
  refine v_iload_n (f := 1) 1 rfl dX12_walk_4 ?_
  refine v_iaload kd_176 g1 (by decide) dX12_walk_5 ?_
  replace h := b_wp_l h
  obtain ⟨g3, h⟩ := b_wp_g h
  refine v_istore_n (g := 3) (i := 3) (ls' := [(3, bI _), (0, bR _), (1, bI _), (2, bI _)]) rfl (by decide) dX12_walk_6 rfl ?_
  refine v_aload_n (f := 0) 1 rfl dX12_walk_7 ?_
  refine v_getR (kf := 29) (kz := 29) rfl kd_11 rfl ⟨by decide, by decide⟩ rfl wf_12_61 dX12_walk_8 ?_
  refine v_iload_n (f := 1) 2 rfl dX12_walk_11 ?_
  refine v_iaload kd_177 g3 (by decide) dX12_walk_12 ?_
  replace h := b_wp_l h
  refine v_istore (i := 4) (ls' := [(4, bI _), (3, bI _), (0, bR _), (1, bI _), (2, bI _)]) (by decide) dX12_walk_13 rfl ?_
  refine v_iconst ⟨by decide, by decide⟩ dX12_walk_15 ?_
  refine v_istore (i := 5) (ls' := [(5, bI _), (4, bI _), (3, bI _), (0, bR _), (1, bI _), (2, bI _)]) (by decide) dX12_walk_16 rfl ?_
  refine v_sub (ls2 := [(0, bR _), (1, bI _), (2, bI _), (3, bI _), (4, bI _), (5, bI _)]) [3, 4, 5, 2, 1, 0] rfl ?_
  refine l_X12_walk_18 (b_wp_m (fun t h => ?_) (b_wp_b h))
  cases t with
  | inr o => exact h
  | inl t =>
    show V l E xX12_walk (0, 0) 172 [] [] _ (b_pV Q)
    replace h := b_wp_inl h
    exact t_X12_walk_b172 h
theorem cf_X12_walk {l : Launch} {E : bE} {M : bM} {v1 : Int} {v2 : Int} {Q : bM → Prop} (h : b_wp (F_X12_walk v1 v2 M) Q) : b_C l E xX12_walk yX12_walk [bR 11, bI v1, bI v2] M (b_pV Q) := b_met (by decide) ⟨rfl, rfl⟩ (Nat.le_of_ble_eq_true rfl) (fun _ _ => t_X12_walk h)
abbrev xX12_lesser : bX := ("BurntHallModel", prog_14_method_46_code, 2, (Option.some Jvm.ClassFile.FieldType.int), b_rm 1 0 0, 0, "lesser")
abbrev yX12_lesser : MethodName := ⟨"BurntHallModel", "lesser", "(II)I"⟩
theorem dX12_lesser_0 : decode prog_14_method_46_code 0 = .ok (.iload_n 0, 1) := by decide +kernel
theorem dX12_lesser_1 : decode prog_14_method_46_code 1 = .ok (.iload_n 1, 1) := by decide +kernel
theorem dX12_lesser_2 : decode prog_14_method_46_code 2 = .ok (.if_icmp .ge 7, 3) := by decide +kernel
theorem dX12_lesser_5 : decode prog_14_method_46_code 5 = .ok (.iload_n 0, 1) := by decide +kernel
theorem dX12_lesser_6 : decode prog_14_method_46_code 6 = .ok (.goto 4, 3) := by decide +kernel
theorem dX12_lesser_9 : decode prog_14_method_46_code 9 = .ok (.iload_n 1, 1) := by decide +kernel
theorem dX12_lesser_10 : decode prog_14_method_46_code 10 = .ok (.ireturn, 1) := by decide +kernel
noncomputable def F_X12_lesser (v0 : Int) (v1 : Int) (M : bM) : Option (Int) :=
  if v1 ≤ v0 then (some v1) else (some v0)
theorem t_X12_lesser {l : Launch} {E : bE} {Q : Int → Prop} {v0 : Int} {v1 : Int} {M : bM} (h : b_wp (F_X12_lesser v0 v1 M) (Q)) : V l E xX12_lesser (0, 0) 0 [(0, bI v0), (1, bI v1)] [] M (b_pIp M Q) := by
  unfold F_X12_lesser at h
  refine v_iload_n (f := 0) 0 rfl dX12_lesser_0 ?_
  refine v_iload_n (f := 1) 1 rfl dX12_lesser_1 ?_
  refine v_icmp_ge (tgt := 9) dX12_lesser_2 (by decide) (fun c1 => ?_) (fun c1 => ?_)
  · replace h := b_wp_t c1 h
    refine v_iload_n (f := 1) 1 rfl dX12_lesser_9 ?_
    refine v_ireturn rfl dX12_lesser_10 ⟨by decide, by decide⟩ ?_
    exact ⟨_, rfl, rfl, h⟩
  · replace h := b_wp_f c1 h
    refine v_iload_n (f := 0) 0 rfl dX12_lesser_5 ?_
    refine v_goto (tgt := 10) dX12_lesser_6 (by decide) ?_
    refine v_ireturn rfl dX12_lesser_10 ⟨by decide, by decide⟩ ?_
    exact ⟨_, rfl, rfl, h⟩
theorem cf_X12_lesser {l : Launch} {E : bE} {M : bM} {v0 : Int} {v1 : Int} {Q : Int → Prop} (h : b_wp (F_X12_lesser v0 v1 M) Q) : b_C l E xX12_lesser yX12_lesser [bI v0, bI v1] M (b_pIp M Q) := b_met (by decide) ⟨rfl, rfl⟩ (Nat.le_of_ble_eq_true rfl) (fun _ _ => t_X12_lesser h)
abbrev xX12_greater : bX := ("BurntHallModel", prog_14_method_47_code, 2, (Option.some Jvm.ClassFile.FieldType.int), b_rm 1 0 0, 0, "greater")
abbrev yX12_greater : MethodName := ⟨"BurntHallModel", "greater", "(II)I"⟩
theorem dX12_greater_0 : decode prog_14_method_47_code 0 = .ok (.iload_n 0, 1) := by decide +kernel
theorem dX12_greater_1 : decode prog_14_method_47_code 1 = .ok (.iload_n 1, 1) := by decide +kernel
theorem dX12_greater_2 : decode prog_14_method_47_code 2 = .ok (.if_icmp .le 7, 3) := by decide +kernel
theorem dX12_greater_5 : decode prog_14_method_47_code 5 = .ok (.iload_n 0, 1) := by decide +kernel
theorem dX12_greater_6 : decode prog_14_method_47_code 6 = .ok (.goto 4, 3) := by decide +kernel
theorem dX12_greater_9 : decode prog_14_method_47_code 9 = .ok (.iload_n 1, 1) := by decide +kernel
theorem dX12_greater_10 : decode prog_14_method_47_code 10 = .ok (.ireturn, 1) := by decide +kernel
noncomputable def F_X12_greater (v0 : Int) (v1 : Int) (M : bM) : Option (Int) :=
  if v0 ≤ v1 then (some v1) else (some v0)
theorem t_X12_greater {l : Launch} {E : bE} {Q : Int → Prop} {v0 : Int} {v1 : Int} {M : bM} (h : b_wp (F_X12_greater v0 v1 M) (Q)) : V l E xX12_greater (0, 0) 0 [(0, bI v0), (1, bI v1)] [] M (b_pIp M Q) := by
  unfold F_X12_greater at h
  refine v_iload_n (f := 0) 0 rfl dX12_greater_0 ?_
  refine v_iload_n (f := 1) 1 rfl dX12_greater_1 ?_
  refine v_icmp_le (tgt := 9) dX12_greater_2 (by decide) (fun c1 => ?_) (fun c1 => ?_)
  · replace h := b_wp_t c1 h
    refine v_iload_n (f := 1) 1 rfl dX12_greater_9 ?_
    refine v_ireturn rfl dX12_greater_10 ⟨by decide, by decide⟩ ?_
    exact ⟨_, rfl, rfl, h⟩
  · replace h := b_wp_f c1 h
    refine v_iload_n (f := 0) 0 rfl dX12_greater_5 ?_
    refine v_goto (tgt := 10) dX12_greater_6 (by decide) ?_
    refine v_ireturn rfl dX12_greater_10 ⟨by decide, by decide⟩ ?_
    exact ⟨_, rfl, rfl, h⟩
theorem cf_X12_greater {l : Launch} {E : bE} {M : bM} {v0 : Int} {v1 : Int} {Q : Int → Prop} (h : b_wp (F_X12_greater v0 v1 M) Q) : b_C l E xX12_greater yX12_greater [bI v0, bI v1] M (b_pIp M Q) := b_met (by decide) ⟨rfl, rfl⟩ (Nat.le_of_ble_eq_true rfl) (fun _ _ => t_X12_greater h)
abbrev xX12_isMeeting : bX := ("BurntHallModel", prog_14_method_48_code, 4, (Option.some Jvm.ClassFile.FieldType.boolean), b_rm 2 0 0, 0, "isMeeting")
abbrev yX12_isMeeting : MethodName := ⟨"BurntHallModel", "isMeeting", "(II)Z"⟩
theorem dX12_isMeeting_0 : decode prog_14_method_48_code 0 = .ok (.aload_n 0, 1) := by decide +kernel
theorem dX12_isMeeting_1 : decode prog_14_method_48_code 1 = .ok (.getfield 70, 3) := by decide +kernel
theorem dX12_isMeeting_4 : decode prog_14_method_48_code 4 = .ok (.iload_n 1, 1) := by decide +kernel
theorem dX12_isMeeting_5 : decode prog_14_method_48_code 5 = .ok (.iaload, 1) := by decide +kernel
theorem dX12_isMeeting_6 : decode prog_14_method_48_code 6 = .ok (.aload_n 0, 1) := by decide +kernel
theorem dX12_isMeeting_7 : decode prog_14_method_48_code 7 = .ok (.getfield 70, 3) := by decide +kernel
theorem dX12_isMeeting_10 : decode prog_14_method_48_code 10 = .ok (.iload_n 1, 1) := by decide +kernel
theorem dX12_isMeeting_11 : decode prog_14_method_48_code 11 = .ok (.iconst 1, 1) := by decide +kernel
theorem dX12_isMeeting_12 : decode prog_14_method_48_code 12 = .ok (.iadd, 1) := by decide +kernel
theorem dX12_isMeeting_13 : decode prog_14_method_48_code 13 = .ok (.iaload, 1) := by decide +kernel
theorem dX12_isMeeting_14 : decode prog_14_method_48_code 14 = .ok (.invokestatic 414, 3) := by decide +kernel
theorem dX12_isMeeting_17 : decode prog_14_method_48_code 17 = .ok (.aload_n 0, 1) := by decide +kernel
theorem dX12_isMeeting_18 : decode prog_14_method_48_code 18 = .ok (.getfield 70, 3) := by decide +kernel
theorem dX12_isMeeting_21 : decode prog_14_method_48_code 21 = .ok (.iload_n 2, 1) := by decide +kernel
theorem dX12_isMeeting_22 : decode prog_14_method_48_code 22 = .ok (.iaload, 1) := by decide +kernel
theorem dX12_isMeeting_23 : decode prog_14_method_48_code 23 = .ok (.aload_n 0, 1) := by decide +kernel
theorem dX12_isMeeting_24 : decode prog_14_method_48_code 24 = .ok (.getfield 70, 3) := by decide +kernel
theorem dX12_isMeeting_27 : decode prog_14_method_48_code 27 = .ok (.iload_n 2, 1) := by decide +kernel
theorem dX12_isMeeting_28 : decode prog_14_method_48_code 28 = .ok (.iconst 1, 1) := by decide +kernel
theorem dX12_isMeeting_29 : decode prog_14_method_48_code 29 = .ok (.iadd, 1) := by decide +kernel
theorem dX12_isMeeting_30 : decode prog_14_method_48_code 30 = .ok (.iaload, 1) := by decide +kernel
theorem dX12_isMeeting_31 : decode prog_14_method_48_code 31 = .ok (.invokestatic 414, 3) := by decide +kernel
theorem dX12_isMeeting_34 : decode prog_14_method_48_code 34 = .ok (.invokestatic 417, 3) := by decide +kernel
theorem dX12_isMeeting_37 : decode prog_14_method_48_code 37 = .ok (.aload_n 0, 1) := by decide +kernel
theorem dX12_isMeeting_38 : decode prog_14_method_48_code 38 = .ok (.getfield 70, 3) := by decide +kernel
theorem dX12_isMeeting_41 : decode prog_14_method_48_code 41 = .ok (.iload_n 1, 1) := by decide +kernel
theorem dX12_isMeeting_42 : decode prog_14_method_48_code 42 = .ok (.iaload, 1) := by decide +kernel
theorem dX12_isMeeting_43 : decode prog_14_method_48_code 43 = .ok (.aload_n 0, 1) := by decide +kernel
theorem dX12_isMeeting_44 : decode prog_14_method_48_code 44 = .ok (.getfield 70, 3) := by decide +kernel
theorem dX12_isMeeting_47 : decode prog_14_method_48_code 47 = .ok (.iload_n 1, 1) := by decide +kernel
theorem dX12_isMeeting_48 : decode prog_14_method_48_code 48 = .ok (.iconst 1, 1) := by decide +kernel
theorem dX12_isMeeting_49 : decode prog_14_method_48_code 49 = .ok (.iadd, 1) := by decide +kernel
theorem dX12_isMeeting_50 : decode prog_14_method_48_code 50 = .ok (.iaload, 1) := by decide +kernel
theorem dX12_isMeeting_51 : decode prog_14_method_48_code 51 = .ok (.invokestatic 417, 3) := by decide +kernel
theorem dX12_isMeeting_54 : decode prog_14_method_48_code 54 = .ok (.aload_n 0, 1) := by decide +kernel
theorem dX12_isMeeting_55 : decode prog_14_method_48_code 55 = .ok (.getfield 70, 3) := by decide +kernel
theorem dX12_isMeeting_58 : decode prog_14_method_48_code 58 = .ok (.iload_n 2, 1) := by decide +kernel
theorem dX12_isMeeting_59 : decode prog_14_method_48_code 59 = .ok (.iaload, 1) := by decide +kernel
theorem dX12_isMeeting_60 : decode prog_14_method_48_code 60 = .ok (.aload_n 0, 1) := by decide +kernel
theorem dX12_isMeeting_61 : decode prog_14_method_48_code 61 = .ok (.getfield 70, 3) := by decide +kernel
theorem dX12_isMeeting_64 : decode prog_14_method_48_code 64 = .ok (.iload_n 2, 1) := by decide +kernel
theorem dX12_isMeeting_65 : decode prog_14_method_48_code 65 = .ok (.iconst 1, 1) := by decide +kernel
theorem dX12_isMeeting_66 : decode prog_14_method_48_code 66 = .ok (.iadd, 1) := by decide +kernel
theorem dX12_isMeeting_67 : decode prog_14_method_48_code 67 = .ok (.iaload, 1) := by decide +kernel
theorem dX12_isMeeting_68 : decode prog_14_method_48_code 68 = .ok (.invokestatic 417, 3) := by decide +kernel
theorem dX12_isMeeting_71 : decode prog_14_method_48_code 71 = .ok (.invokestatic 414, 3) := by decide +kernel
theorem dX12_isMeeting_74 : decode prog_14_method_48_code 74 = .ok (.if_icmp .gt 7, 3) := by decide +kernel
theorem dX12_isMeeting_77 : decode prog_14_method_48_code 77 = .ok (.iconst 1, 1) := by decide +kernel
theorem dX12_isMeeting_78 : decode prog_14_method_48_code 78 = .ok (.goto 4, 3) := by decide +kernel
theorem dX12_isMeeting_81 : decode prog_14_method_48_code 81 = .ok (.iconst 0, 1) := by decide +kernel
theorem dX12_isMeeting_82 : decode prog_14_method_48_code 82 = .ok (.istore_n 3, 1) := by decide +kernel
theorem dX12_isMeeting_83 : decode prog_14_method_48_code 83 = .ok (.iload_n 3, 1) := by decide +kernel
theorem dX12_isMeeting_84 : decode prog_14_method_48_code 84 = .ok (.ifCond .eq 84, 3) := by decide +kernel
theorem dX12_isMeeting_87 : decode prog_14_method_48_code 87 = .ok (.aload_n 0, 1) := by decide +kernel
theorem dX12_isMeeting_88 : decode prog_14_method_48_code 88 = .ok (.getfield 73, 3) := by decide +kernel
theorem dX12_isMeeting_91 : decode prog_14_method_48_code 91 = .ok (.iload_n 1, 1) := by decide +kernel
theorem dX12_isMeeting_92 : decode prog_14_method_48_code 92 = .ok (.iaload, 1) := by decide +kernel
theorem dX12_isMeeting_93 : decode prog_14_method_48_code 93 = .ok (.aload_n 0, 1) := by decide +kernel
theorem dX12_isMeeting_94 : decode prog_14_method_48_code 94 = .ok (.getfield 73, 3) := by decide +kernel
theorem dX12_isMeeting_97 : decode prog_14_method_48_code 97 = .ok (.iload_n 1, 1) := by decide +kernel
theorem dX12_isMeeting_98 : decode prog_14_method_48_code 98 = .ok (.iconst 1, 1) := by decide +kernel
theorem dX12_isMeeting_99 : decode prog_14_method_48_code 99 = .ok (.iadd, 1) := by decide +kernel
theorem dX12_isMeeting_100 : decode prog_14_method_48_code 100 = .ok (.iaload, 1) := by decide +kernel
theorem dX12_isMeeting_101 : decode prog_14_method_48_code 101 = .ok (.invokestatic 414, 3) := by decide +kernel
theorem dX12_isMeeting_104 : decode prog_14_method_48_code 104 = .ok (.aload_n 0, 1) := by decide +kernel
theorem dX12_isMeeting_105 : decode prog_14_method_48_code 105 = .ok (.getfield 73, 3) := by decide +kernel
theorem dX12_isMeeting_108 : decode prog_14_method_48_code 108 = .ok (.iload_n 2, 1) := by decide +kernel
theorem dX12_isMeeting_109 : decode prog_14_method_48_code 109 = .ok (.iaload, 1) := by decide +kernel
theorem dX12_isMeeting_110 : decode prog_14_method_48_code 110 = .ok (.aload_n 0, 1) := by decide +kernel
theorem dX12_isMeeting_111 : decode prog_14_method_48_code 111 = .ok (.getfield 73, 3) := by decide +kernel
theorem dX12_isMeeting_114 : decode prog_14_method_48_code 114 = .ok (.iload_n 2, 1) := by decide +kernel
theorem dX12_isMeeting_115 : decode prog_14_method_48_code 115 = .ok (.iconst 1, 1) := by decide +kernel
theorem dX12_isMeeting_116 : decode prog_14_method_48_code 116 = .ok (.iadd, 1) := by decide +kernel
theorem dX12_isMeeting_117 : decode prog_14_method_48_code 117 = .ok (.iaload, 1) := by decide +kernel
theorem dX12_isMeeting_118 : decode prog_14_method_48_code 118 = .ok (.invokestatic 414, 3) := by decide +kernel
theorem dX12_isMeeting_121 : decode prog_14_method_48_code 121 = .ok (.invokestatic 417, 3) := by decide +kernel
theorem dX12_isMeeting_124 : decode prog_14_method_48_code 124 = .ok (.aload_n 0, 1) := by decide +kernel
theorem dX12_isMeeting_125 : decode prog_14_method_48_code 125 = .ok (.getfield 73, 3) := by decide +kernel
theorem dX12_isMeeting_128 : decode prog_14_method_48_code 128 = .ok (.iload_n 1, 1) := by decide +kernel
theorem dX12_isMeeting_129 : decode prog_14_method_48_code 129 = .ok (.iaload, 1) := by decide +kernel
theorem dX12_isMeeting_130 : decode prog_14_method_48_code 130 = .ok (.aload_n 0, 1) := by decide +kernel
theorem dX12_isMeeting_131 : decode prog_14_method_48_code 131 = .ok (.getfield 73, 3) := by decide +kernel
theorem dX12_isMeeting_134 : decode prog_14_method_48_code 134 = .ok (.iload_n 1, 1) := by decide +kernel
theorem dX12_isMeeting_135 : decode prog_14_method_48_code 135 = .ok (.iconst 1, 1) := by decide +kernel
theorem dX12_isMeeting_136 : decode prog_14_method_48_code 136 = .ok (.iadd, 1) := by decide +kernel
theorem dX12_isMeeting_137 : decode prog_14_method_48_code 137 = .ok (.iaload, 1) := by decide +kernel
theorem dX12_isMeeting_138 : decode prog_14_method_48_code 138 = .ok (.invokestatic 417, 3) := by decide +kernel
theorem dX12_isMeeting_141 : decode prog_14_method_48_code 141 = .ok (.aload_n 0, 1) := by decide +kernel
theorem dX12_isMeeting_142 : decode prog_14_method_48_code 142 = .ok (.getfield 73, 3) := by decide +kernel
theorem dX12_isMeeting_145 : decode prog_14_method_48_code 145 = .ok (.iload_n 2, 1) := by decide +kernel
theorem dX12_isMeeting_146 : decode prog_14_method_48_code 146 = .ok (.iaload, 1) := by decide +kernel
theorem dX12_isMeeting_147 : decode prog_14_method_48_code 147 = .ok (.aload_n 0, 1) := by decide +kernel
theorem dX12_isMeeting_148 : decode prog_14_method_48_code 148 = .ok (.getfield 73, 3) := by decide +kernel
theorem dX12_isMeeting_151 : decode prog_14_method_48_code 151 = .ok (.iload_n 2, 1) := by decide +kernel
theorem dX12_isMeeting_152 : decode prog_14_method_48_code 152 = .ok (.iconst 1, 1) := by decide +kernel
theorem dX12_isMeeting_153 : decode prog_14_method_48_code 153 = .ok (.iadd, 1) := by decide +kernel
theorem dX12_isMeeting_154 : decode prog_14_method_48_code 154 = .ok (.iaload, 1) := by decide +kernel
theorem dX12_isMeeting_155 : decode prog_14_method_48_code 155 = .ok (.invokestatic 417, 3) := by decide +kernel
theorem dX12_isMeeting_158 : decode prog_14_method_48_code 158 = .ok (.invokestatic 414, 3) := by decide +kernel
theorem dX12_isMeeting_161 : decode prog_14_method_48_code 161 = .ok (.if_icmp .gt 7, 3) := by decide +kernel
theorem dX12_isMeeting_164 : decode prog_14_method_48_code 164 = .ok (.iconst 1, 1) := by decide +kernel
theorem dX12_isMeeting_165 : decode prog_14_method_48_code 165 = .ok (.goto 4, 3) := by decide +kernel
theorem dX12_isMeeting_168 : decode prog_14_method_48_code 168 = .ok (.iconst 0, 1) := by decide +kernel
theorem dX12_isMeeting_169 : decode prog_14_method_48_code 169 = .ok (.ireturn, 1) := by decide +kernel
noncomputable def F_X12_isMeeting_b82 (v1 : Int) (v2 : Int) (u0 : Int) (M : bM) : Option (Int) :=
  if u0 = 0 then (some 0) else (b_g ((0 ≤ v1 ∧ v1 < 26) ∧ (b_i32 (v1 + 1)) ∧ (0 ≤ (v1 + 1) ∧ (v1 + 1) < 26)) (b_bind (F_X12_lesser (M 181 v1) (M 181 (v1 + 1)) M) (fun x24 => b_g ((0 ≤ v2 ∧ v2 < 26) ∧ (b_i32 (v2 + 1)) ∧ (0 ≤ (v2 + 1) ∧ (v2 + 1) < 26)) (b_bind (F_X12_lesser (M 181 v2) (M 181 (v2 + 1)) M) (fun x28 => b_bind (F_X12_greater x24 x28 M) (fun x29 => b_g ((0 ≤ v1 ∧ v1 < 26) ∧ (b_i32 (v1 + 1)) ∧ (0 ≤ (v1 + 1) ∧ (v1 + 1) < 26)) (b_bind (F_X12_greater (M 181 v1) (M 181 (v1 + 1)) M) (fun x33 => b_g ((0 ≤ v2 ∧ v2 < 26) ∧ (b_i32 (v2 + 1)) ∧ (0 ≤ (v2 + 1) ∧ (v2 + 1) < 26)) (b_bind (F_X12_greater (M 181 v2) (M 181 (v2 + 1)) M) (fun x37 => b_bind (F_X12_lesser x33 x37 M) (fun x38 => if x38 < x29 then (some 0) else (some 1))))))))))))
theorem t_X12_isMeeting_b82 {l : Launch} {E : bE} {Q : Int → Prop} {v1 : Int} {v2 : Int} {u0 : Int} {M : bM} (h : b_wp (F_X12_isMeeting_b82 v1 v2 u0 M) (Q)) : V l E xX12_isMeeting (0, 0) 82 [(0, bR 11), (1, bI v1), (2, bI v2)] [bI u0] M (b_pIp M Q) := by
  unfold F_X12_isMeeting_b82 at h
  refine v_istore_n (g := 3) (i := 3) (ls' := [(3, bI _), (0, bR _), (1, bI _), (2, bI _)]) rfl (by decide) dX12_isMeeting_82 rfl ?_
  refine v_iload_n (f := 3) 0 rfl dX12_isMeeting_83 ?_
  refine v_if_eq (tgt := 168) dX12_isMeeting_84 (by decide) (fun c20 => ?_) (fun c20 => ?_)
  · replace h := b_wp_t c20 h
    refine v_iconst ⟨by decide, by decide⟩ dX12_isMeeting_168 ?_
    refine v_zreturn rfl (Or.inl rfl) dX12_isMeeting_169 ⟨by decide, by decide⟩ ?_
    exact ⟨_, rfl, rfl, h⟩
  · replace h := b_wp_f c20 h
    obtain ⟨⟨g21, g22, g23⟩, h⟩ := b_wp_g h
    refine v_aload_n (f := 0) 1 rfl dX12_isMeeting_87 ?_
    refine v_getR (kf := 34) (kz := 34) rfl kd_11 rfl ⟨by decide, by decide⟩ rfl wf_12_73 dX12_isMeeting_88 ?_
    refine v_iload_n (f := 1) 2 rfl dX12_isMeeting_91 ?_
    refine v_iaload kd_181 g21 (by decide) dX12_isMeeting_92 ?_
    refine v_aload_n (f := 0) 1 rfl dX12_isMeeting_93 ?_
    refine v_getR (kf := 34) (kz := 34) rfl kd_11 rfl ⟨by decide, by decide⟩ rfl wf_12_73 dX12_isMeeting_94 ?_
    refine v_iload_n (f := 1) 2 rfl dX12_isMeeting_97 ?_
    refine v_iconst ⟨by decide, by decide⟩ dX12_isMeeting_98 ?_
    refine v_iaddN g22 dX12_isMeeting_99 ?_
    refine v_iaload kd_181 g23 (by decide) dX12_isMeeting_100 ?_
    refine v_cSIp (nA := 2) (As := [bI _, bI _]) (ix := 414) (cf_X12_lesser (b_wp_b h)) rfl wc_X12_lesser wm_12_414 wi_X12_lesser wn_12 ⟨by decide, by decide, by decide⟩ rfl ⟨by decide, by decide⟩ ⟨by decide, by decide⟩ (Nat.le_of_ble_eq_true rfl) dX12_isMeeting_101 (fun x24 h => ?_)
    obtain ⟨⟨g25, g26, g27⟩, h⟩ := b_wp_g h
    refine v_aload_n (f := 0) 1 rfl dX12_isMeeting_104 ?_
    refine v_getR (kf := 34) (kz := 34) rfl kd_11 rfl ⟨by decide, by decide⟩ rfl wf_12_73 dX12_isMeeting_105 ?_
    refine v_iload_n (f := 2) 3 rfl dX12_isMeeting_108 ?_
    refine v_iaload kd_181 g25 (by decide) dX12_isMeeting_109 ?_
    refine v_aload_n (f := 0) 1 rfl dX12_isMeeting_110 ?_
    refine v_getR (kf := 34) (kz := 34) rfl kd_11 rfl ⟨by decide, by decide⟩ rfl wf_12_73 dX12_isMeeting_111 ?_
    refine v_iload_n (f := 2) 3 rfl dX12_isMeeting_114 ?_
    refine v_iconst ⟨by decide, by decide⟩ dX12_isMeeting_115 ?_
    refine v_iaddN g26 dX12_isMeeting_116 ?_
    refine v_iaload kd_181 g27 (by decide) dX12_isMeeting_117 ?_
    refine v_cSIp (nA := 2) (As := [bI _, bI _]) (ix := 414) (cf_X12_lesser (b_wp_b h)) rfl wc_X12_lesser wm_12_414 wi_X12_lesser wn_12 ⟨by decide, by decide, by decide⟩ rfl ⟨by decide, by decide⟩ ⟨by decide, by decide⟩ (Nat.le_of_ble_eq_true rfl) dX12_isMeeting_118 (fun x28 h => ?_)
    refine v_cSIp (nA := 2) (As := [bI _, bI _]) (ix := 417) (cf_X12_greater (b_wp_b h)) rfl wc_X12_greater wm_12_417 wi_X12_greater wn_12 ⟨by decide, by decide, by decide⟩ rfl ⟨by decide, by decide⟩ ⟨by decide, by decide⟩ (Nat.le_of_ble_eq_true rfl) dX12_isMeeting_121 (fun x29 h => ?_)
    obtain ⟨⟨g30, g31, g32⟩, h⟩ := b_wp_g h
    refine v_aload_n (f := 0) 1 rfl dX12_isMeeting_124 ?_
    refine v_getR (kf := 34) (kz := 34) rfl kd_11 rfl ⟨by decide, by decide⟩ rfl wf_12_73 dX12_isMeeting_125 ?_
    refine v_iload_n (f := 1) 2 rfl dX12_isMeeting_128 ?_
    refine v_iaload kd_181 g30 (by decide) dX12_isMeeting_129 ?_
    refine v_aload_n (f := 0) 1 rfl dX12_isMeeting_130 ?_
    refine v_getR (kf := 34) (kz := 34) rfl kd_11 rfl ⟨by decide, by decide⟩ rfl wf_12_73 dX12_isMeeting_131 ?_
    refine v_iload_n (f := 1) 2 rfl dX12_isMeeting_134 ?_
    refine v_iconst ⟨by decide, by decide⟩ dX12_isMeeting_135 ?_
    refine v_iaddN g31 dX12_isMeeting_136 ?_
    refine v_iaload kd_181 g32 (by decide) dX12_isMeeting_137 ?_
    refine v_cSIp (nA := 2) (As := [bI _, bI _]) (ix := 417) (cf_X12_greater (b_wp_b h)) rfl wc_X12_greater wm_12_417 wi_X12_greater wn_12 ⟨by decide, by decide, by decide⟩ rfl ⟨by decide, by decide⟩ ⟨by decide, by decide⟩ (Nat.le_of_ble_eq_true rfl) dX12_isMeeting_138 (fun x33 h => ?_)
    obtain ⟨⟨g34, g35, g36⟩, h⟩ := b_wp_g h
    refine v_aload_n (f := 0) 1 rfl dX12_isMeeting_141 ?_
    refine v_getR (kf := 34) (kz := 34) rfl kd_11 rfl ⟨by decide, by decide⟩ rfl wf_12_73 dX12_isMeeting_142 ?_
    refine v_iload_n (f := 2) 3 rfl dX12_isMeeting_145 ?_
    refine v_iaload kd_181 g34 (by decide) dX12_isMeeting_146 ?_
    refine v_aload_n (f := 0) 1 rfl dX12_isMeeting_147 ?_
    refine v_getR (kf := 34) (kz := 34) rfl kd_11 rfl ⟨by decide, by decide⟩ rfl wf_12_73 dX12_isMeeting_148 ?_
    refine v_iload_n (f := 2) 3 rfl dX12_isMeeting_151 ?_
    refine v_iconst ⟨by decide, by decide⟩ dX12_isMeeting_152 ?_
    refine v_iaddN g35 dX12_isMeeting_153 ?_
    refine v_iaload kd_181 g36 (by decide) dX12_isMeeting_154 ?_
    refine v_cSIp (nA := 2) (As := [bI _, bI _]) (ix := 417) (cf_X12_greater (b_wp_b h)) rfl wc_X12_greater wm_12_417 wi_X12_greater wn_12 ⟨by decide, by decide, by decide⟩ rfl ⟨by decide, by decide⟩ ⟨by decide, by decide⟩ (Nat.le_of_ble_eq_true rfl) dX12_isMeeting_155 (fun x37 h => ?_)
    refine v_cSIp (nA := 2) (As := [bI _, bI _]) (ix := 414) (cf_X12_lesser (b_wp_b h)) rfl wc_X12_lesser wm_12_414 wi_X12_lesser wn_12 ⟨by decide, by decide, by decide⟩ rfl ⟨by decide, by decide⟩ ⟨by decide, by decide⟩ (Nat.le_of_ble_eq_true rfl) dX12_isMeeting_158 (fun x38 h => ?_)
    refine v_icmp_gt (tgt := 168) dX12_isMeeting_161 (by decide) (fun c39 => ?_) (fun c39 => ?_)
    · replace h := b_wp_t c39 h
      refine v_iconst ⟨by decide, by decide⟩ dX12_isMeeting_168 ?_
      refine v_zreturn rfl (Or.inl rfl) dX12_isMeeting_169 ⟨by decide, by decide⟩ ?_
      exact ⟨_, rfl, rfl, h⟩
    · replace h := b_wp_f c39 h
      refine v_iconst ⟨by decide, by decide⟩ dX12_isMeeting_164 ?_
      refine v_goto (tgt := 169) dX12_isMeeting_165 (by decide) ?_
      refine v_zreturn rfl (Or.inr rfl) dX12_isMeeting_169 ⟨by decide, by decide⟩ ?_
      exact ⟨_, rfl, rfl, h⟩
noncomputable def F_X12_isMeeting (v1 : Int) (v2 : Int) (M : bM) : Option (Int) :=
  b_g ((0 ≤ v1 ∧ v1 < 26) ∧ (b_i32 (v1 + 1)) ∧ (0 ≤ (v1 + 1) ∧ (v1 + 1) < 26)) (b_bind (F_X12_lesser (M 180 v1) (M 180 (v1 + 1)) M) (fun x4 => b_g ((0 ≤ v2 ∧ v2 < 26) ∧ (b_i32 (v2 + 1)) ∧ (0 ≤ (v2 + 1) ∧ (v2 + 1) < 26)) (b_bind (F_X12_lesser (M 180 v2) (M 180 (v2 + 1)) M) (fun x8 => b_bind (F_X12_greater x4 x8 M) (fun x9 => b_g ((0 ≤ v1 ∧ v1 < 26) ∧ (b_i32 (v1 + 1)) ∧ (0 ≤ (v1 + 1) ∧ (v1 + 1) < 26)) (b_bind (F_X12_greater (M 180 v1) (M 180 (v1 + 1)) M) (fun x13 => b_g ((0 ≤ v2 ∧ v2 < 26) ∧ (b_i32 (v2 + 1)) ∧ (0 ≤ (v2 + 1) ∧ (v2 + 1) < 26)) (b_bind (F_X12_greater (M 180 v2) (M 180 (v2 + 1)) M) (fun x17 => b_bind (F_X12_lesser x13 x17 M) (fun x18 => if x18 < x9 then (F_X12_isMeeting_b82 v1 v2 0 M) else (F_X12_isMeeting_b82 v1 v2 1 M)))))))))))
theorem t_X12_isMeeting {l : Launch} {E : bE} {Q : Int → Prop} {v1 : Int} {v2 : Int} {M : bM} (h : b_wp (F_X12_isMeeting v1 v2 M) (Q)) : V l E xX12_isMeeting (0, 0) 0 [(0, bR 11), (1, bI v1), (2, bI v2)] [] M (b_pIp M Q) := by
  unfold F_X12_isMeeting at h
  obtain ⟨⟨g1, g2, g3⟩, h⟩ := b_wp_g h
  refine v_aload_n (f := 0) 0 rfl dX12_isMeeting_0 ?_
  refine v_getR (kf := 33) (kz := 33) rfl kd_11 rfl ⟨by decide, by decide⟩ rfl wf_12_70 dX12_isMeeting_1 ?_
  refine v_iload_n (f := 1) 1 rfl dX12_isMeeting_4 ?_
  refine v_iaload kd_180 g1 (by decide) dX12_isMeeting_5 ?_
  refine v_aload_n (f := 0) 0 rfl dX12_isMeeting_6 ?_
  refine v_getR (kf := 33) (kz := 33) rfl kd_11 rfl ⟨by decide, by decide⟩ rfl wf_12_70 dX12_isMeeting_7 ?_
  refine v_iload_n (f := 1) 1 rfl dX12_isMeeting_10 ?_
  refine v_iconst ⟨by decide, by decide⟩ dX12_isMeeting_11 ?_
  refine v_iaddN g2 dX12_isMeeting_12 ?_
  refine v_iaload kd_180 g3 (by decide) dX12_isMeeting_13 ?_
  refine v_cSIp (nA := 2) (As := [bI _, bI _]) (ix := 414) (cf_X12_lesser (b_wp_b h)) rfl wc_X12_lesser wm_12_414 wi_X12_lesser wn_12 ⟨by decide, by decide, by decide⟩ rfl ⟨by decide, by decide⟩ ⟨by decide, by decide⟩ (Nat.le_of_ble_eq_true rfl) dX12_isMeeting_14 (fun x4 h => ?_)
  obtain ⟨⟨g5, g6, g7⟩, h⟩ := b_wp_g h
  refine v_aload_n (f := 0) 0 rfl dX12_isMeeting_17 ?_
  refine v_getR (kf := 33) (kz := 33) rfl kd_11 rfl ⟨by decide, by decide⟩ rfl wf_12_70 dX12_isMeeting_18 ?_
  refine v_iload_n (f := 2) 2 rfl dX12_isMeeting_21 ?_
  refine v_iaload kd_180 g5 (by decide) dX12_isMeeting_22 ?_
  refine v_aload_n (f := 0) 0 rfl dX12_isMeeting_23 ?_
  refine v_getR (kf := 33) (kz := 33) rfl kd_11 rfl ⟨by decide, by decide⟩ rfl wf_12_70 dX12_isMeeting_24 ?_
  refine v_iload_n (f := 2) 2 rfl dX12_isMeeting_27 ?_
  refine v_iconst ⟨by decide, by decide⟩ dX12_isMeeting_28 ?_
  refine v_iaddN g6 dX12_isMeeting_29 ?_
  refine v_iaload kd_180 g7 (by decide) dX12_isMeeting_30 ?_
  refine v_cSIp (nA := 2) (As := [bI _, bI _]) (ix := 414) (cf_X12_lesser (b_wp_b h)) rfl wc_X12_lesser wm_12_414 wi_X12_lesser wn_12 ⟨by decide, by decide, by decide⟩ rfl ⟨by decide, by decide⟩ ⟨by decide, by decide⟩ (Nat.le_of_ble_eq_true rfl) dX12_isMeeting_31 (fun x8 h => ?_)
  refine v_cSIp (nA := 2) (As := [bI _, bI _]) (ix := 417) (cf_X12_greater (b_wp_b h)) rfl wc_X12_greater wm_12_417 wi_X12_greater wn_12 ⟨by decide, by decide, by decide⟩ rfl ⟨by decide, by decide⟩ ⟨by decide, by decide⟩ (Nat.le_of_ble_eq_true rfl) dX12_isMeeting_34 (fun x9 h => ?_)
  obtain ⟨⟨g10, g11, g12⟩, h⟩ := b_wp_g h
  refine v_aload_n (f := 0) 0 rfl dX12_isMeeting_37 ?_
  refine v_getR (kf := 33) (kz := 33) rfl kd_11 rfl ⟨by decide, by decide⟩ rfl wf_12_70 dX12_isMeeting_38 ?_
  refine v_iload_n (f := 1) 1 rfl dX12_isMeeting_41 ?_
  refine v_iaload kd_180 g10 (by decide) dX12_isMeeting_42 ?_
  refine v_aload_n (f := 0) 0 rfl dX12_isMeeting_43 ?_
  refine v_getR (kf := 33) (kz := 33) rfl kd_11 rfl ⟨by decide, by decide⟩ rfl wf_12_70 dX12_isMeeting_44 ?_
  refine v_iload_n (f := 1) 1 rfl dX12_isMeeting_47 ?_
  refine v_iconst ⟨by decide, by decide⟩ dX12_isMeeting_48 ?_
  refine v_iaddN g11 dX12_isMeeting_49 ?_
  refine v_iaload kd_180 g12 (by decide) dX12_isMeeting_50 ?_
  refine v_cSIp (nA := 2) (As := [bI _, bI _]) (ix := 417) (cf_X12_greater (b_wp_b h)) rfl wc_X12_greater wm_12_417 wi_X12_greater wn_12 ⟨by decide, by decide, by decide⟩ rfl ⟨by decide, by decide⟩ ⟨by decide, by decide⟩ (Nat.le_of_ble_eq_true rfl) dX12_isMeeting_51 (fun x13 h => ?_)
  obtain ⟨⟨g14, g15, g16⟩, h⟩ := b_wp_g h
  refine v_aload_n (f := 0) 0 rfl dX12_isMeeting_54 ?_
  refine v_getR (kf := 33) (kz := 33) rfl kd_11 rfl ⟨by decide, by decide⟩ rfl wf_12_70 dX12_isMeeting_55 ?_
  refine v_iload_n (f := 2) 2 rfl dX12_isMeeting_58 ?_
  refine v_iaload kd_180 g14 (by decide) dX12_isMeeting_59 ?_
  refine v_aload_n (f := 0) 0 rfl dX12_isMeeting_60 ?_
  refine v_getR (kf := 33) (kz := 33) rfl kd_11 rfl ⟨by decide, by decide⟩ rfl wf_12_70 dX12_isMeeting_61 ?_
  refine v_iload_n (f := 2) 2 rfl dX12_isMeeting_64 ?_
  refine v_iconst ⟨by decide, by decide⟩ dX12_isMeeting_65 ?_
  refine v_iaddN g15 dX12_isMeeting_66 ?_
  refine v_iaload kd_180 g16 (by decide) dX12_isMeeting_67 ?_
  refine v_cSIp (nA := 2) (As := [bI _, bI _]) (ix := 417) (cf_X12_greater (b_wp_b h)) rfl wc_X12_greater wm_12_417 wi_X12_greater wn_12 ⟨by decide, by decide, by decide⟩ rfl ⟨by decide, by decide⟩ ⟨by decide, by decide⟩ (Nat.le_of_ble_eq_true rfl) dX12_isMeeting_68 (fun x17 h => ?_)
  refine v_cSIp (nA := 2) (As := [bI _, bI _]) (ix := 414) (cf_X12_lesser (b_wp_b h)) rfl wc_X12_lesser wm_12_414 wi_X12_lesser wn_12 ⟨by decide, by decide, by decide⟩ rfl ⟨by decide, by decide⟩ ⟨by decide, by decide⟩ (Nat.le_of_ble_eq_true rfl) dX12_isMeeting_71 (fun x18 h => ?_)
  refine v_icmp_gt (tgt := 81) dX12_isMeeting_74 (by decide) (fun c19 => ?_) (fun c19 => ?_)
  · replace h := b_wp_t c19 h
    refine v_iconst ⟨by decide, by decide⟩ dX12_isMeeting_81 ?_
    exact t_X12_isMeeting_b82 h
  · replace h := b_wp_f c19 h
    refine v_iconst ⟨by decide, by decide⟩ dX12_isMeeting_77 ?_
    refine v_goto (tgt := 82) dX12_isMeeting_78 (by decide) ?_
    exact t_X12_isMeeting_b82 h
theorem cf_X12_isMeeting {l : Launch} {E : bE} {M : bM} {v1 : Int} {v2 : Int} {Q : Int → Prop} (h : b_wp (F_X12_isMeeting v1 v2 M) Q) : b_C l E xX12_isMeeting yX12_isMeeting [bR 11, bI v1, bI v2] M (b_pIp M Q) := b_met (by decide) ⟨rfl, rfl⟩ (Nat.le_of_ble_eq_true rfl) (fun _ _ => t_X12_isMeeting h)
abbrev xX12_isArea : bX := ("BurntHallModel", prog_14_method_49_code, 6, (Option.some Jvm.ClassFile.FieldType.boolean), b_rm 3 0 0, 0, "isArea")
abbrev yX12_isArea : MethodName := ⟨"BurntHallModel", "isArea", "(II)Z"⟩
theorem dX12_isArea_0 : decode prog_14_method_49_code 0 = .ok (.aload_n 0, 1) := by decide +kernel
theorem dX12_isArea_1 : decode prog_14_method_49_code 1 = .ok (.iload_n 1, 1) := by decide +kernel
theorem dX12_isArea_2 : decode prog_14_method_49_code 2 = .ok (.iconst 0, 1) := by decide +kernel
theorem dX12_isArea_3 : decode prog_14_method_49_code 3 = .ok (.invokevirtual 405, 3) := by decide +kernel
theorem dX12_isArea_6 : decode prog_14_method_49_code 6 = .ok (.ifCond .ne 12, 3) := by decide +kernel
theorem dX12_isArea_9 : decode prog_14_method_49_code 9 = .ok (.aload_n 0, 1) := by decide +kernel
theorem dX12_isArea_10 : decode prog_14_method_49_code 10 = .ok (.iload_n 1, 1) := by decide +kernel
theorem dX12_isArea_11 : decode prog_14_method_49_code 11 = .ok (.iconst 1, 1) := by decide +kernel
theorem dX12_isArea_12 : decode prog_14_method_49_code 12 = .ok (.invokevirtual 405, 3) := by decide +kernel
theorem dX12_isArea_15 : decode prog_14_method_49_code 15 = .ok (.ifCond .eq 5, 3) := by decide +kernel
theorem dX12_isArea_18 : decode prog_14_method_49_code 18 = .ok (.iconst 0, 1) := by decide +kernel
theorem dX12_isArea_19 : decode prog_14_method_49_code 19 = .ok (.ireturn, 1) := by decide +kernel
theorem dX12_isArea_20 : decode prog_14_method_49_code 20 = .ok (.aload_n 0, 1) := by decide +kernel
theorem dX12_isArea_21 : decode prog_14_method_49_code 21 = .ok (.iload_n 1, 1) := by decide +kernel
theorem dX12_isArea_22 : decode prog_14_method_49_code 22 = .ok (.iload_n 2, 1) := by decide +kernel
theorem dX12_isArea_23 : decode prog_14_method_49_code 23 = .ok (.invokevirtual 420, 3) := by decide +kernel
theorem dX12_isArea_26 : decode prog_14_method_49_code 26 = .ok (.aload_n 0, 1) := by decide +kernel
theorem dX12_isArea_27 : decode prog_14_method_49_code 27 = .ok (.getfield 55, 3) := by decide +kernel
theorem dX12_isArea_30 : decode prog_14_method_49_code 30 = .ok (.iload_n 1, 1) := by decide +kernel
theorem dX12_isArea_31 : decode prog_14_method_49_code 31 = .ok (.iaload, 1) := by decide +kernel
theorem dX12_isArea_32 : decode prog_14_method_49_code 32 = .ok (.istore_n 3, 1) := by decide +kernel
theorem dX12_isArea_33 : decode prog_14_method_49_code 33 = .ok (.iconst 0, 1) := by decide +kernel
theorem dX12_isArea_34 : decode prog_14_method_49_code 34 = .ok (.istore 4, 2) := by decide +kernel
theorem dX12_isArea_36 : decode prog_14_method_49_code 36 = .ok (.iload 4, 2) := by decide +kernel
theorem dX12_isArea_38 : decode prog_14_method_49_code 38 = .ok (.iload_n 3, 1) := by decide +kernel
theorem dX12_isArea_39 : decode prog_14_method_49_code 39 = .ok (.if_icmp .ge 94, 3) := by decide +kernel
theorem dX12_isArea_42 : decode prog_14_method_49_code 42 = .ok (.aload_n 0, 1) := by decide +kernel
theorem dX12_isArea_43 : decode prog_14_method_49_code 43 = .ok (.getfield 64, 3) := by decide +kernel
theorem dX12_isArea_46 : decode prog_14_method_49_code 46 = .ok (.bipush 12, 2) := by decide +kernel
theorem dX12_isArea_48 : decode prog_14_method_49_code 48 = .ok (.iload_n 1, 1) := by decide +kernel
theorem dX12_isArea_49 : decode prog_14_method_49_code 49 = .ok (.imul, 1) := by decide +kernel
theorem dX12_isArea_50 : decode prog_14_method_49_code 50 = .ok (.iload 4, 2) := by decide +kernel
theorem dX12_isArea_52 : decode prog_14_method_49_code 52 = .ok (.iadd, 1) := by decide +kernel
theorem dX12_isArea_53 : decode prog_14_method_49_code 53 = .ok (.iaload, 1) := by decide +kernel
theorem dX12_isArea_54 : decode prog_14_method_49_code 54 = .ok (.iconst 2, 1) := by decide +kernel
theorem dX12_isArea_55 : decode prog_14_method_49_code 55 = .ok (.irem, 1) := by decide +kernel
theorem dX12_isArea_56 : decode prog_14_method_49_code 56 = .ok (.aload_n 0, 1) := by decide +kernel
theorem dX12_isArea_57 : decode prog_14_method_49_code 57 = .ok (.getfield 64, 3) := by decide +kernel
theorem dX12_isArea_60 : decode prog_14_method_49_code 60 = .ok (.bipush 12, 2) := by decide +kernel
theorem dX12_isArea_62 : decode prog_14_method_49_code 62 = .ok (.iload_n 1, 1) := by decide +kernel
theorem dX12_isArea_63 : decode prog_14_method_49_code 63 = .ok (.imul, 1) := by decide +kernel
theorem dX12_isArea_64 : decode prog_14_method_49_code 64 = .ok (.iload 4, 2) := by decide +kernel
theorem dX12_isArea_66 : decode prog_14_method_49_code 66 = .ok (.iconst 1, 1) := by decide +kernel
theorem dX12_isArea_67 : decode prog_14_method_49_code 67 = .ok (.iadd, 1) := by decide +kernel
theorem dX12_isArea_68 : decode prog_14_method_49_code 68 = .ok (.iload_n 3, 1) := by decide +kernel
theorem dX12_isArea_69 : decode prog_14_method_49_code 69 = .ok (.irem, 1) := by decide +kernel
theorem dX12_isArea_70 : decode prog_14_method_49_code 70 = .ok (.iadd, 1) := by decide +kernel
theorem dX12_isArea_71 : decode prog_14_method_49_code 71 = .ok (.iaload, 1) := by decide +kernel
theorem dX12_isArea_72 : decode prog_14_method_49_code 72 = .ok (.iconst 2, 1) := by decide +kernel
theorem dX12_isArea_73 : decode prog_14_method_49_code 73 = .ok (.irem, 1) := by decide +kernel
theorem dX12_isArea_74 : decode prog_14_method_49_code 74 = .ok (.if_icmp .ne 5, 3) := by decide +kernel
theorem dX12_isArea_77 : decode prog_14_method_49_code 77 = .ok (.iconst 0, 1) := by decide +kernel
theorem dX12_isArea_78 : decode prog_14_method_49_code 78 = .ok (.ireturn, 1) := by decide +kernel
theorem dX12_isArea_79 : decode prog_14_method_49_code 79 = .ok (.iload 4, 2) := by decide +kernel
theorem dX12_isArea_81 : decode prog_14_method_49_code 81 = .ok (.iconst 2, 1) := by decide +kernel
theorem dX12_isArea_82 : decode prog_14_method_49_code 82 = .ok (.iadd, 1) := by decide +kernel
theorem dX12_isArea_83 : decode prog_14_method_49_code 83 = .ok (.istore 5, 2) := by decide +kernel
theorem dX12_isArea_85 : decode prog_14_method_49_code 85 = .ok (.iload 5, 2) := by decide +kernel
theorem dX12_isArea_87 : decode prog_14_method_49_code 87 = .ok (.iload_n 3, 1) := by decide +kernel
theorem dX12_isArea_88 : decode prog_14_method_49_code 88 = .ok (.if_icmp .ge 39, 3) := by decide +kernel
theorem dX12_isArea_91 : decode prog_14_method_49_code 91 = .ok (.iload 4, 2) := by decide +kernel
theorem dX12_isArea_93 : decode prog_14_method_49_code 93 = .ok (.ifCond .ne 11, 3) := by decide +kernel
theorem dX12_isArea_96 : decode prog_14_method_49_code 96 = .ok (.iload 5, 2) := by decide +kernel
theorem dX12_isArea_98 : decode prog_14_method_49_code 98 = .ok (.iload_n 3, 1) := by decide +kernel
theorem dX12_isArea_99 : decode prog_14_method_49_code 99 = .ok (.iconst 1, 1) := by decide +kernel
theorem dX12_isArea_100 : decode prog_14_method_49_code 100 = .ok (.isub, 1) := by decide +kernel
theorem dX12_isArea_101 : decode prog_14_method_49_code 101 = .ok (.if_icmp .eq 20, 3) := by decide +kernel
theorem dX12_isArea_104 : decode prog_14_method_49_code 104 = .ok (.aload_n 0, 1) := by decide +kernel
theorem dX12_isArea_105 : decode prog_14_method_49_code 105 = .ok (.iload_n 2, 1) := by decide +kernel
theorem dX12_isArea_106 : decode prog_14_method_49_code 106 = .ok (.iload 4, 2) := by decide +kernel
theorem dX12_isArea_108 : decode prog_14_method_49_code 108 = .ok (.iadd, 1) := by decide +kernel
theorem dX12_isArea_109 : decode prog_14_method_49_code 109 = .ok (.iload_n 2, 1) := by decide +kernel
theorem dX12_isArea_110 : decode prog_14_method_49_code 110 = .ok (.iload 5, 2) := by decide +kernel
theorem dX12_isArea_112 : decode prog_14_method_49_code 112 = .ok (.iadd, 1) := by decide +kernel
theorem dX12_isArea_113 : decode prog_14_method_49_code 113 = .ok (.invokevirtual 424, 3) := by decide +kernel
theorem dX12_isArea_116 : decode prog_14_method_49_code 116 = .ok (.ifCond .eq 5, 3) := by decide +kernel
theorem dX12_isArea_119 : decode prog_14_method_49_code 119 = .ok (.iconst 0, 1) := by decide +kernel
theorem dX12_isArea_120 : decode prog_14_method_49_code 120 = .ok (.ireturn, 1) := by decide +kernel
theorem dX12_isArea_121 : decode prog_14_method_49_code 121 = .ok (.iinc 5 1, 3) := by decide +kernel
theorem dX12_isArea_124 : decode prog_14_method_49_code 124 = .ok (.goto (-39), 3) := by decide +kernel
theorem dX12_isArea_127 : decode prog_14_method_49_code 127 = .ok (.iinc 4 1, 3) := by decide +kernel
theorem dX12_isArea_130 : decode prog_14_method_49_code 130 = .ok (.goto (-94), 3) := by decide +kernel
theorem dX12_isArea_133 : decode prog_14_method_49_code 133 = .ok (.iload_n 3, 1) := by decide +kernel
theorem dX12_isArea_134 : decode prog_14_method_49_code 134 = .ok (.iconst 3, 1) := by decide +kernel
theorem dX12_isArea_135 : decode prog_14_method_49_code 135 = .ok (.if_icmp .le 7, 3) := by decide +kernel
theorem dX12_isArea_138 : decode prog_14_method_49_code 138 = .ok (.iconst 1, 1) := by decide +kernel
theorem dX12_isArea_139 : decode prog_14_method_49_code 139 = .ok (.goto 4, 3) := by decide +kernel
theorem dX12_isArea_142 : decode prog_14_method_49_code 142 = .ok (.iconst 0, 1) := by decide +kernel
theorem dX12_isArea_143 : decode prog_14_method_49_code 143 = .ok (.ireturn, 1) := by decide +kernel
abbrev A_X12_isArea_36 (l : Launch) (E : bE) (Q : (Int × bM) → Prop) (v1 : Int) (v2 : Int) (v3 : Int) (M : bM) : (Int) → Prop := (fun t : Int => V l E xX12_isArea (0, 0) 36 [(0, bR 11), (1, bI v1), (2, bI v2), (3, bI v3), (4, bI t)] [] M (b_pI Q))
abbrev X_X12_isArea_36 (l : Launch) (E : bE) (Q : (Int × bM) → Prop) (v1 : Int) (v2 : Int) (v3 : Int) (M : bM) : ((Unit) ⊕ (Int × bM)) → Prop := (Sum.elim (fun t : Unit => V l E xX12_isArea (0, 0) 133 [(3, bI v3)] [] M (b_pI Q)) Q)
abbrev A_X12_isArea_85 (l : Launch) (E : bE) (Q : (Int × bM) → Prop) (v1 : Int) (v2 : Int) (v3 : Int) (v4 : Int) (M : bM) : (Int) → Prop := (fun t : Int => V l E xX12_isArea (0, 0) 85 [(0, bR 11), (1, bI v1), (2, bI v2), (3, bI v3), (4, bI v4), (5, bI t)] [] M (b_pI Q))
abbrev X_X12_isArea_85 (l : Launch) (E : bE) (Q : (Int × bM) → Prop) (v1 : Int) (v2 : Int) (v3 : Int) (v4 : Int) (M : bM) : ((Unit) ⊕ ((Int) ⊕ ((Unit) ⊕ (Int × bM)))) → Prop := (Sum.elim (fun t : Unit => V l E xX12_isArea (0, 0) 127 [(0, bR 11), (1, bI v1), (2, bI v2), (3, bI v3), (4, bI v4)] [] M (b_pI Q)) (Sum.elim (A_X12_isArea_36 l E Q v1 v2 v3 M) (X_X12_isArea_36 l E Q v1 v2 v3 M)))
noncomputable def F_X12_isArea_b104 (v1 : Int) (v2 : Int) (v3 : Int) (v4 : Int) (v5 : Int) (M : bM) : Option ((Int) ⊕ ((Unit) ⊕ ((Int) ⊕ ((Unit) ⊕ (Int × bM))))) :=
  b_g ((b_i32 (v2 + v4)) ∧ (b_i32 (v2 + v5))) (b_bind (F_X12_isMeeting (v2 + v4) (v2 + v5) M) (fun x22 => if x22 = 0 then (b_g (b_i32 (v5 + 1)) (some (.inl ((v5 + 1))))) else (some (.inr (.inr (.inr (.inr (0, M))))))))
theorem t_X12_isArea_b104 {l : Launch} {E : bE} {Q : (Int × bM) → Prop} {v1 : Int} {v2 : Int} {v3 : Int} {v4 : Int} {v5 : Int} {M : bM} (h : b_wp (F_X12_isArea_b104 v1 v2 v3 v4 v5 M) (Sum.elim (A_X12_isArea_85 l E Q v1 v2 v3 v4 M) (X_X12_isArea_85 l E Q v1 v2 v3 v4 M))) : V l E xX12_isArea (0, 0) 104 [(0, bR 11), (1, bI v1), (2, bI v2), (3, bI v3), (4, bI v4), (5, bI v5)] [] M (b_pI Q) := by
  unfold F_X12_isArea_b104 at h
  obtain ⟨⟨g20, g21⟩, h⟩ := b_wp_g h
  refine v_aload_n (f := 0) 0 rfl dX12_isArea_104 ?_
  refine v_iload_n (f := 2) 2 rfl dX12_isArea_105 ?_
  refine v_iload (i := 4) 4 rfl dX12_isArea_106 ?_
  refine v_iaddN g20 dX12_isArea_108 ?_
  refine v_iload_n (f := 2) 2 rfl dX12_isArea_109 ?_
  refine v_iload (i := 5) 5 rfl dX12_isArea_110 ?_
  refine v_iaddN g21 dX12_isArea_112 ?_
  refine v_cVIp (nA := 2) (As := [bI _, bI _]) (ix := 424) (cf_X12_isMeeting (b_wp_b h)) rfl kd_11 rfl rfl wc_X12_isMeeting wm_12_424 wi_X12_isMeeting ws_X12_isMeeting wn_12 ⟨by decide, by decide, by decide⟩ rfl ⟨by decide, by decide⟩ ⟨by decide, by decide⟩ (Nat.le_of_ble_eq_true rfl) dX12_isArea_113 (fun x22 h => ?_)
  refine v_if_eq (tgt := 121) dX12_isArea_116 (by decide) (fun c23 => ?_) (fun c23 => ?_)
  · replace h := b_wp_t c23 h
    obtain ⟨g24, h⟩ := b_wp_g h
    refine v_iincN (ls' := [(5, bI _), (0, bR _), (1, bI _), (2, bI _), (3, bI _), (4, bI _)]) 5 rfl (by decide) g24 dX12_isArea_121 rfl ?_
    refine v_goto (tgt := 85) dX12_isArea_124 (by decide) ?_
    refine v_sub (ls2 := [(0, bR _), (1, bI _), (2, bI _), (3, bI _), (4, bI _), (5, bI _)]) [1, 2, 3, 4, 5, 0] rfl ?_
    exact h
  · replace h := b_wp_f c23 h
    refine v_iconst ⟨by decide, by decide⟩ dX12_isArea_119 ?_
    refine v_zreturn rfl (Or.inl rfl) dX12_isArea_120 ⟨by decide, by decide⟩ ?_
    exact ⟨_, rfl, h⟩
noncomputable def F_X12_isArea_s85 (v1 : Int) (v2 : Int) (v3 : Int) (v4 : Int) (v5 : Int) (M : bM) : Option ((Int) ⊕ ((Unit) ⊕ ((Int) ⊕ ((Unit) ⊕ (Int × bM))))) :=
  if v3 ≤ v5 then (some (.inr (.inl ()))) else (if v4 = 0 then (b_g (b_i32 (v3 - 1)) (if v5 = (v3 - 1) then (b_g (b_i32 (v5 + 1)) (some (.inl ((v5 + 1))))) else (F_X12_isArea_b104 v1 v2 v3 v4 v5 M))) else (F_X12_isArea_b104 v1 v2 v3 v4 v5 M))
theorem t_X12_isArea_s85 {l : Launch} {E : bE} {Q : (Int × bM) → Prop} {v1 : Int} {v2 : Int} {v3 : Int} {v4 : Int} {v5 : Int} {M : bM} (h : b_wp (F_X12_isArea_s85 v1 v2 v3 v4 v5 M) (Sum.elim (A_X12_isArea_85 l E Q v1 v2 v3 v4 M) (X_X12_isArea_85 l E Q v1 v2 v3 v4 M))) : V l E xX12_isArea (0, 0) 85 [(0, bR 11), (1, bI v1), (2, bI v2), (3, bI v3), (4, bI v4), (5, bI v5)] [] M (b_pI Q) := by
  unfold F_X12_isArea_s85 at h
  refine v_iload (i := 5) 5 rfl dX12_isArea_85 ?_
  refine v_iload_n (f := 3) 3 rfl dX12_isArea_87 ?_
  refine v_icmp_ge (tgt := 127) dX12_isArea_88 (by decide) (fun c18 => ?_) (fun c18 => ?_)
  · replace h := b_wp_t c18 h
    refine v_sub (ls2 := [(0, bR _), (1, bI _), (2, bI _), (3, bI _), (4, bI _)]) [0, 1, 2, 3, 4] rfl ?_
    exact h
  · replace h := b_wp_f c18 h
    refine v_iload (i := 4) 4 rfl dX12_isArea_91 ?_
    refine v_if_ne (tgt := 104) dX12_isArea_93 (by decide) (fun c19 => ?_) (fun c19 => ?_)
    · replace h := b_wp_f c19 h
      exact t_X12_isArea_b104 h
    · replace h := b_wp_t c19 h
      obtain ⟨g25, h⟩ := b_wp_g h
      refine v_iload (i := 5) 5 rfl dX12_isArea_96 ?_
      refine v_iload_n (f := 3) 3 rfl dX12_isArea_98 ?_
      refine v_iconst ⟨by decide, by decide⟩ dX12_isArea_99 ?_
      refine v_isubN g25 dX12_isArea_100 ?_
      refine v_icmp_eq (tgt := 121) dX12_isArea_101 (by decide) (fun c26 => ?_) (fun c26 => ?_)
      · replace h := b_wp_t c26 h
        obtain ⟨g27, h⟩ := b_wp_g h
        refine v_iincN (ls' := [(5, bI _), (0, bR _), (1, bI _), (2, bI _), (3, bI _), (4, bI _)]) 5 rfl (by decide) g27 dX12_isArea_121 rfl ?_
        refine v_goto (tgt := 85) dX12_isArea_124 (by decide) ?_
        refine v_sub (ls2 := [(0, bR _), (1, bI _), (2, bI _), (3, bI _), (4, bI _), (5, bI _)]) [1, 2, 3, 4, 5, 0] rfl ?_
        exact h
      · replace h := b_wp_f c26 h
        exact t_X12_isArea_b104 h
theorem l_X12_isArea_85 {l : Launch} {E : bE} {Q : (Int × bM) → Prop} {v1 : Int} {v2 : Int} {v3 : Int} {v4 : Int} {M : bM} {s : Int} (h : b_wp (b_loop (fun t => F_X12_isArea_s85 v1 v2 v3 v4 t M) s) (X_X12_isArea_85 l E Q v1 v2 v3 v4 M)) : A_X12_isArea_85 l E Q v1 v2 v3 v4 M s := b_loop_wp (fun t h => t_X12_isArea_s85 h) s h
noncomputable def F_X12_isArea_b127 (v1 : Int) (v2 : Int) (v3 : Int) (v4 : Int) (M : bM) : Option ((Int) ⊕ ((Unit) ⊕ (Int × bM))) :=
  b_g (b_i32 (v4 + 1)) (some (.inl ((v4 + 1))))
theorem t_X12_isArea_b127 {l : Launch} {E : bE} {Q : (Int × bM) → Prop} {v1 : Int} {v2 : Int} {v3 : Int} {v4 : Int} {M : bM} (h : b_wp (F_X12_isArea_b127 v1 v2 v3 v4 M) (Sum.elim (A_X12_isArea_36 l E Q v1 v2 v3 M) (X_X12_isArea_36 l E Q v1 v2 v3 M))) : V l E xX12_isArea (0, 0) 127 [(0, bR 11), (1, bI v1), (2, bI v2), (3, bI v3), (4, bI v4)] [] M (b_pI Q) := by
  unfold F_X12_isArea_b127 at h
  obtain ⟨g28, h⟩ := b_wp_g h
  refine v_iincN (ls' := [(4, bI _), (0, bR _), (1, bI _), (2, bI _), (3, bI _)]) 4 rfl (by decide) g28 dX12_isArea_127 rfl ?_
  refine v_goto (tgt := 36) dX12_isArea_130 (by decide) ?_
  refine v_sub (ls2 := [(0, bR _), (1, bI _), (2, bI _), (3, bI _), (4, bI _)]) [1, 2, 3, 4, 0] rfl ?_
  exact h
noncomputable def F_X12_isArea_s36 (v1 : Int) (v2 : Int) (v3 : Int) (v4 : Int) (M : bM) : Option ((Int) ⊕ ((Unit) ⊕ (Int × bM))) :=
  if v3 ≤ v4 then (some (.inr (.inl ()))) else (b_g ((b_i32 (12 * v1)) ∧ (b_i32 ((12 * v1) + v4)) ∧ (0 ≤ ((12 * v1) + v4) ∧ ((12 * v1) + v4) < 732) ∧ (b_i32 (v4 + 1)) ∧ (v3 ≠ 0) ∧ (b_i32 ((12 * v1) + (i_rem (v4 + 1) v3))) ∧ (0 ≤ ((12 * v1) + (i_rem (v4 + 1) v3)) ∧ ((12 * v1) + (i_rem (v4 + 1) v3)) < 732)) (if (i_rem (M 178 ((12 * v1) + v4)) 2) = (i_rem (M 178 ((12 * v1) + (i_rem (v4 + 1) v3))) 2) then (some (.inr (.inr (0, M)))) else (b_g (b_i32 (v4 + 2)) (b_bind (b_loop (fun t => F_X12_isArea_s85 v1 v2 v3 v4 t M) ((v4 + 2))) (Sum.elim (fun t => F_X12_isArea_b127 v1 v2 v3 v4 M) some)))))
theorem t_X12_isArea_s36 {l : Launch} {E : bE} {Q : (Int × bM) → Prop} {v1 : Int} {v2 : Int} {v3 : Int} {v4 : Int} {M : bM} (h : b_wp (F_X12_isArea_s36 v1 v2 v3 v4 M) (Sum.elim (A_X12_isArea_36 l E Q v1 v2 v3 M) (X_X12_isArea_36 l E Q v1 v2 v3 M))) : V l E xX12_isArea (0, 0) 36 [(0, bR 11), (1, bI v1), (2, bI v2), (3, bI v3), (4, bI v4)] [] M (b_pI Q) := by
  unfold F_X12_isArea_s36 at h
  refine v_iload (i := 4) 4 rfl dX12_isArea_36 ?_
  refine v_iload_n (f := 3) 3 rfl dX12_isArea_38 ?_
  refine v_icmp_ge (tgt := 133) dX12_isArea_39 (by decide) (fun c8 => ?_) (fun c8 => ?_)
  · replace h := b_wp_t c8 h
    refine v_sub (ls2 := [(3, bI _)]) [3] rfl ?_
    exact h
  · replace h := b_wp_f c8 h
    obtain ⟨⟨g9, g10, g11, g12, g13, g14, g15⟩, h⟩ := b_wp_g h
    refine v_aload_n (f := 0) 0 rfl dX12_isArea_42 ?_
    refine v_getR (kf := 30) (kz := 30) rfl kd_11 rfl ⟨by decide, by decide⟩ rfl wf_12_64 dX12_isArea_43 ?_
    refine v_bipush ⟨by decide, by decide⟩ (by decide) dX12_isArea_46 ?_
    refine v_iload_n (f := 1) 1 rfl dX12_isArea_48 ?_
    refine v_imulN g9 dX12_isArea_49 ?_
    refine v_iload (i := 4) 4 rfl dX12_isArea_50 ?_
    refine v_iaddN g10 dX12_isArea_52 ?_
    refine v_iaload kd_178 g11 (by decide) dX12_isArea_53 ?_
    refine v_iconst ⟨by decide, by decide⟩ dX12_isArea_54 ?_
    refine v_irem (v := i_rem _ _) (by decide) rfl dX12_isArea_55 ?_
    refine v_aload_n (f := 0) 0 rfl dX12_isArea_56 ?_
    refine v_getR (kf := 30) (kz := 30) rfl kd_11 rfl ⟨by decide, by decide⟩ rfl wf_12_64 dX12_isArea_57 ?_
    refine v_bipush ⟨by decide, by decide⟩ (by decide) dX12_isArea_60 ?_
    refine v_iload_n (f := 1) 1 rfl dX12_isArea_62 ?_
    refine v_imulN g9 dX12_isArea_63 ?_
    refine v_iload (i := 4) 4 rfl dX12_isArea_64 ?_
    refine v_iconst ⟨by decide, by decide⟩ dX12_isArea_66 ?_
    refine v_iaddN g12 dX12_isArea_67 ?_
    refine v_iload_n (f := 3) 3 rfl dX12_isArea_68 ?_
    refine v_irem (v := i_rem _ _) g13 rfl dX12_isArea_69 ?_
    refine v_iaddN g14 dX12_isArea_70 ?_
    refine v_iaload kd_178 g15 (by decide) dX12_isArea_71 ?_
    refine v_iconst ⟨by decide, by decide⟩ dX12_isArea_72 ?_
    refine v_irem (v := i_rem _ _) (by decide) rfl dX12_isArea_73 ?_
    refine v_icmp_ne (tgt := 79) dX12_isArea_74 (by decide) (fun c16 => ?_) (fun c16 => ?_)
    · replace h := b_wp_f c16 h
      obtain ⟨g17, h⟩ := b_wp_g h
      refine v_iload (i := 4) 4 rfl dX12_isArea_79 ?_
      refine v_iconst ⟨by decide, by decide⟩ dX12_isArea_81 ?_
      refine v_iaddN g17 dX12_isArea_82 ?_
      refine v_istore (i := 5) (ls' := [(5, bI _), (0, bR _), (1, bI _), (2, bI _), (3, bI _), (4, bI _)]) (by decide) dX12_isArea_83 rfl ?_
      refine v_sub (ls2 := [(0, bR _), (1, bI _), (2, bI _), (3, bI _), (4, bI _), (5, bI _)]) [1, 2, 3, 4, 5, 0] rfl ?_
      refine l_X12_isArea_85 (b_wp_m (fun t h => ?_) (b_wp_b h))
      cases t with
      | inr o => exact h
      | inl t =>
        show V l E xX12_isArea (0, 0) 127 [(0, bR 11), (1, bI _), (2, bI _), (3, bI _), (4, bI _)] [] _ (b_pI Q)
        replace h := b_wp_inl h
        exact t_X12_isArea_b127 h
    · replace h := b_wp_t c16 h
      refine v_iconst ⟨by decide, by decide⟩ dX12_isArea_77 ?_
      refine v_zreturn rfl (Or.inl rfl) dX12_isArea_78 ⟨by decide, by decide⟩ ?_
      exact ⟨_, rfl, h⟩
theorem l_X12_isArea_36 {l : Launch} {E : bE} {Q : (Int × bM) → Prop} {v1 : Int} {v2 : Int} {v3 : Int} {M : bM} {s : Int} (h : b_wp (b_loop (fun t => F_X12_isArea_s36 v1 v2 v3 t M) s) (X_X12_isArea_36 l E Q v1 v2 v3 M)) : A_X12_isArea_36 l E Q v1 v2 v3 M s := b_loop_wp (fun t h => t_X12_isArea_s36 h) s h
noncomputable def F_X12_isArea_b133 (v3 : Int) (M : bM) : Option (Int × bM) :=
  if v3 ≤ 3 then (some (0, M)) else (some (1, M))
theorem t_X12_isArea_b133 {l : Launch} {E : bE} {Q : (Int × bM) → Prop} {v3 : Int} {M : bM} (h : b_wp (F_X12_isArea_b133 v3 M) (Q)) : V l E xX12_isArea (0, 0) 133 [(3, bI v3)] [] M (b_pI Q) := by
  unfold F_X12_isArea_b133 at h
  refine v_iload_n (f := 3) 0 rfl dX12_isArea_133 ?_
  refine v_iconst ⟨by decide, by decide⟩ dX12_isArea_134 ?_
  refine v_icmp_le (tgt := 142) dX12_isArea_135 (by decide) (fun c29 => ?_) (fun c29 => ?_)
  · replace h := b_wp_t c29 h
    refine v_iconst ⟨by decide, by decide⟩ dX12_isArea_142 ?_
    refine v_zreturn rfl (Or.inl rfl) dX12_isArea_143 ⟨by decide, by decide⟩ ?_
    exact ⟨_, rfl, h⟩
  · replace h := b_wp_f c29 h
    refine v_iconst ⟨by decide, by decide⟩ dX12_isArea_138 ?_
    refine v_goto (tgt := 143) dX12_isArea_139 (by decide) ?_
    refine v_zreturn rfl (Or.inr rfl) dX12_isArea_143 ⟨by decide, by decide⟩ ?_
    exact ⟨_, rfl, h⟩
noncomputable def F_X12_isArea (v1 : Int) (v2 : Int) (M : bM) : Option (Int × bM) :=
  b_bind (F_X12_leads v1 0 M) (fun x1 => if x1 = 0 then (b_bind (F_X12_leads v1 1 M) (fun x3 => if x3 = 0 then (b_bind (F_X12_walk v1 v2 M) (fun M5 => b_g (0 ≤ v1 ∧ v1 < 60) (b_let ((M5 175 v1)) (fun y7 => b_bind (b_loop (fun t => F_X12_isArea_s36 v1 v2 y7 t M5) (0)) (Sum.elim (fun t => F_X12_isArea_b133 y7 M5) some))))) else (some (0, M)))) else (some (0, M)))
theorem t_X12_isArea {l : Launch} {E : bE} {Q : (Int × bM) → Prop} {v1 : Int} {v2 : Int} {M : bM} (h : b_wp (F_X12_isArea v1 v2 M) (Q)) : V l E xX12_isArea (0, 0) 0 [(0, bR 11), (1, bI v1), (2, bI v2)] [] M (b_pI Q) := by
  unfold F_X12_isArea at h
  refine v_aload_n (f := 0) 0 rfl dX12_isArea_0 ?_
  refine v_iload_n (f := 1) 1 rfl dX12_isArea_1 ?_
  refine v_iconst ⟨by decide, by decide⟩ dX12_isArea_2 ?_
  refine v_cVIp (nA := 2) (As := [bI _, bI _]) (ix := 405) (cf_X12_leads (b_wp_b h)) rfl kd_11 rfl rfl wc_X12_leads wm_12_405 wi_X12_leads ws_X12_leads wn_12 ⟨by decide, by decide, by decide⟩ rfl ⟨by decide, by decide⟩ ⟨by decide, by decide⟩ (Nat.le_of_ble_eq_true rfl) dX12_isArea_3 (fun x1 h => ?_)
  refine v_if_ne (tgt := 18) dX12_isArea_6 (by decide) (fun c2 => ?_) (fun c2 => ?_)
  · replace h := b_wp_f c2 h
    refine v_iconst ⟨by decide, by decide⟩ dX12_isArea_18 ?_
    refine v_zreturn rfl (Or.inl rfl) dX12_isArea_19 ⟨by decide, by decide⟩ ?_
    exact ⟨_, rfl, h⟩
  · replace h := b_wp_t c2 h
    refine v_aload_n (f := 0) 0 rfl dX12_isArea_9 ?_
    refine v_iload_n (f := 1) 1 rfl dX12_isArea_10 ?_
    refine v_iconst ⟨by decide, by decide⟩ dX12_isArea_11 ?_
    refine v_cVIp (nA := 2) (As := [bI _, bI _]) (ix := 405) (cf_X12_leads (b_wp_b h)) rfl kd_11 rfl rfl wc_X12_leads wm_12_405 wi_X12_leads ws_X12_leads wn_12 ⟨by decide, by decide, by decide⟩ rfl ⟨by decide, by decide⟩ ⟨by decide, by decide⟩ (Nat.le_of_ble_eq_true rfl) dX12_isArea_12 (fun x3 h => ?_)
    refine v_if_eq (tgt := 20) dX12_isArea_15 (by decide) (fun c4 => ?_) (fun c4 => ?_)
    · replace h := b_wp_t c4 h
      refine v_aload_n (f := 0) 0 rfl dX12_isArea_20 ?_
      refine v_iload_n (f := 1) 1 rfl dX12_isArea_21 ?_
      refine v_iload_n (f := 2) 2 rfl dX12_isArea_22 ?_
      refine v_cVV (nA := 2) (As := [bI _, bI _]) (ix := 420) (cf_X12_walk (b_wp_b h)) rfl kd_11 rfl rfl wc_X12_walk wm_12_420 wi_X12_walk ws_X12_walk wn_12 ⟨by decide, by decide, by decide⟩ rfl ⟨by decide, by decide⟩ ⟨by decide, by decide⟩ (Nat.le_of_ble_eq_true rfl) dX12_isArea_23 (fun M5 h => ?_)
      obtain ⟨g6, h⟩ := b_wp_g h
      refine v_aload_n (f := 0) 0 rfl dX12_isArea_26 ?_
      refine v_getR (kf := 27) (kz := 27) rfl kd_11 rfl ⟨by decide, by decide⟩ rfl wf_12_55 dX12_isArea_27 ?_
      refine v_iload_n (f := 1) 1 rfl dX12_isArea_30 ?_
      refine v_iaload kd_175 g6 (by decide) dX12_isArea_31 ?_
      replace h := b_wp_l h
      refine v_istore_n (g := 3) (i := 3) (ls' := [(3, bI _), (0, bR _), (1, bI _), (2, bI _)]) rfl (by decide) dX12_isArea_32 rfl ?_
      refine v_iconst ⟨by decide, by decide⟩ dX12_isArea_33 ?_
      refine v_istore (i := 4) (ls' := [(4, bI _), (3, bI _), (0, bR _), (1, bI _), (2, bI _)]) (by decide) dX12_isArea_34 rfl ?_
      refine v_sub (ls2 := [(0, bR _), (1, bI _), (2, bI _), (3, bI _), (4, bI _)]) [2, 3, 4, 1, 0] rfl ?_
      refine l_X12_isArea_36 (b_wp_m (fun t h => ?_) (b_wp_b h))
      cases t with
      | inr o => exact h
      | inl t =>
        show V l E xX12_isArea (0, 0) 133 [(3, bI _)] [] _ (b_pI Q)
        replace h := b_wp_inl h
        exact t_X12_isArea_b133 h
    · replace h := b_wp_f c4 h
      refine v_iconst ⟨by decide, by decide⟩ dX12_isArea_18 ?_
      refine v_zreturn rfl (Or.inl rfl) dX12_isArea_19 ⟨by decide, by decide⟩ ?_
      exact ⟨_, rfl, h⟩
theorem cf_X12_isArea {l : Launch} {E : bE} {M : bM} {v1 : Int} {v2 : Int} {Q : (Int × bM) → Prop} (h : b_wp (F_X12_isArea v1 v2 M) Q) : b_C l E xX12_isArea yX12_isArea [bR 11, bI v1, bI v2] M (b_pI Q) := b_met (by decide) ⟨rfl, rfl⟩ (Nat.le_of_ble_eq_true rfl) (fun _ _ => t_X12_isArea h)
abbrev xX12_areaOf : bX := ("BurntHallModel", prog_14_method_50_code, 5, (Option.some Jvm.ClassFile.FieldType.int), b_rm 1 0 0, 0, "areaOf")
abbrev yX12_areaOf : MethodName := ⟨"BurntHallModel", "areaOf", "(II)I"⟩
theorem dX12_areaOf_0 : decode prog_14_method_50_code 0 = .ok (.iconst 0, 1) := by decide +kernel
theorem dX12_areaOf_1 : decode prog_14_method_50_code 1 = .ok (.istore_n 3, 1) := by decide +kernel
theorem dX12_areaOf_2 : decode prog_14_method_50_code 2 = .ok (.iconst 0, 1) := by decide +kernel
theorem dX12_areaOf_3 : decode prog_14_method_50_code 3 = .ok (.istore 4, 2) := by decide +kernel
theorem dX12_areaOf_5 : decode prog_14_method_50_code 5 = .ok (.iload 4, 2) := by decide +kernel
theorem dX12_areaOf_7 : decode prog_14_method_50_code 7 = .ok (.aload_n 0, 1) := by decide +kernel
theorem dX12_areaOf_8 : decode prog_14_method_50_code 8 = .ok (.getfield 55, 3) := by decide +kernel
theorem dX12_areaOf_11 : decode prog_14_method_50_code 11 = .ok (.iload_n 1, 1) := by decide +kernel
theorem dX12_areaOf_12 : decode prog_14_method_50_code 12 = .ok (.iaload, 1) := by decide +kernel
theorem dX12_areaOf_13 : decode prog_14_method_50_code 13 = .ok (.if_icmp .ge 55, 3) := by decide +kernel
theorem dX12_areaOf_16 : decode prog_14_method_50_code 16 = .ok (.iload_n 3, 1) := by decide +kernel
theorem dX12_areaOf_17 : decode prog_14_method_50_code 17 = .ok (.aload_n 0, 1) := by decide +kernel
theorem dX12_areaOf_18 : decode prog_14_method_50_code 18 = .ok (.getfield 70, 3) := by decide +kernel
theorem dX12_areaOf_21 : decode prog_14_method_50_code 21 = .ok (.iload_n 2, 1) := by decide +kernel
theorem dX12_areaOf_22 : decode prog_14_method_50_code 22 = .ok (.iload 4, 2) := by decide +kernel
theorem dX12_areaOf_24 : decode prog_14_method_50_code 24 = .ok (.iadd, 1) := by decide +kernel
theorem dX12_areaOf_25 : decode prog_14_method_50_code 25 = .ok (.iaload, 1) := by decide +kernel
theorem dX12_areaOf_26 : decode prog_14_method_50_code 26 = .ok (.aload_n 0, 1) := by decide +kernel
theorem dX12_areaOf_27 : decode prog_14_method_50_code 27 = .ok (.getfield 73, 3) := by decide +kernel
theorem dX12_areaOf_30 : decode prog_14_method_50_code 30 = .ok (.iload_n 2, 1) := by decide +kernel
theorem dX12_areaOf_31 : decode prog_14_method_50_code 31 = .ok (.iload 4, 2) := by decide +kernel
theorem dX12_areaOf_33 : decode prog_14_method_50_code 33 = .ok (.iadd, 1) := by decide +kernel
theorem dX12_areaOf_34 : decode prog_14_method_50_code 34 = .ok (.iconst 1, 1) := by decide +kernel
theorem dX12_areaOf_35 : decode prog_14_method_50_code 35 = .ok (.iadd, 1) := by decide +kernel
theorem dX12_areaOf_36 : decode prog_14_method_50_code 36 = .ok (.iaload, 1) := by decide +kernel
theorem dX12_areaOf_37 : decode prog_14_method_50_code 37 = .ok (.imul, 1) := by decide +kernel
theorem dX12_areaOf_38 : decode prog_14_method_50_code 38 = .ok (.aload_n 0, 1) := by decide +kernel
theorem dX12_areaOf_39 : decode prog_14_method_50_code 39 = .ok (.getfield 70, 3) := by decide +kernel
theorem dX12_areaOf_42 : decode prog_14_method_50_code 42 = .ok (.iload_n 2, 1) := by decide +kernel
theorem dX12_areaOf_43 : decode prog_14_method_50_code 43 = .ok (.iload 4, 2) := by decide +kernel
theorem dX12_areaOf_45 : decode prog_14_method_50_code 45 = .ok (.iadd, 1) := by decide +kernel
theorem dX12_areaOf_46 : decode prog_14_method_50_code 46 = .ok (.iconst 1, 1) := by decide +kernel
theorem dX12_areaOf_47 : decode prog_14_method_50_code 47 = .ok (.iadd, 1) := by decide +kernel
theorem dX12_areaOf_48 : decode prog_14_method_50_code 48 = .ok (.iaload, 1) := by decide +kernel
theorem dX12_areaOf_49 : decode prog_14_method_50_code 49 = .ok (.aload_n 0, 1) := by decide +kernel
theorem dX12_areaOf_50 : decode prog_14_method_50_code 50 = .ok (.getfield 73, 3) := by decide +kernel
theorem dX12_areaOf_53 : decode prog_14_method_50_code 53 = .ok (.iload_n 2, 1) := by decide +kernel
theorem dX12_areaOf_54 : decode prog_14_method_50_code 54 = .ok (.iload 4, 2) := by decide +kernel
theorem dX12_areaOf_56 : decode prog_14_method_50_code 56 = .ok (.iadd, 1) := by decide +kernel
theorem dX12_areaOf_57 : decode prog_14_method_50_code 57 = .ok (.iaload, 1) := by decide +kernel
theorem dX12_areaOf_58 : decode prog_14_method_50_code 58 = .ok (.imul, 1) := by decide +kernel
theorem dX12_areaOf_59 : decode prog_14_method_50_code 59 = .ok (.isub, 1) := by decide +kernel
theorem dX12_areaOf_60 : decode prog_14_method_50_code 60 = .ok (.iadd, 1) := by decide +kernel
theorem dX12_areaOf_61 : decode prog_14_method_50_code 61 = .ok (.istore_n 3, 1) := by decide +kernel
theorem dX12_areaOf_62 : decode prog_14_method_50_code 62 = .ok (.iinc 4 1, 3) := by decide +kernel
theorem dX12_areaOf_65 : decode prog_14_method_50_code 65 = .ok (.goto (-60), 3) := by decide +kernel
theorem dX12_areaOf_68 : decode prog_14_method_50_code 68 = .ok (.iload_n 3, 1) := by decide +kernel
theorem dX12_areaOf_69 : decode prog_14_method_50_code 69 = .ok (.ifCond .ge 10, 3) := by decide +kernel
theorem dX12_areaOf_72 : decode prog_14_method_50_code 72 = .ok (.iload_n 3, 1) := by decide +kernel
theorem dX12_areaOf_73 : decode prog_14_method_50_code 73 = .ok (.ineg, 1) := by decide +kernel
theorem dX12_areaOf_74 : decode prog_14_method_50_code 74 = .ok (.iconst 2, 1) := by decide +kernel
theorem dX12_areaOf_75 : decode prog_14_method_50_code 75 = .ok (.idiv, 1) := by decide +kernel
theorem dX12_areaOf_76 : decode prog_14_method_50_code 76 = .ok (.goto 6, 3) := by decide +kernel
theorem dX12_areaOf_79 : decode prog_14_method_50_code 79 = .ok (.iload_n 3, 1) := by decide +kernel
theorem dX12_areaOf_80 : decode prog_14_method_50_code 80 = .ok (.iconst 2, 1) := by decide +kernel
theorem dX12_areaOf_81 : decode prog_14_method_50_code 81 = .ok (.idiv, 1) := by decide +kernel
theorem dX12_areaOf_82 : decode prog_14_method_50_code 82 = .ok (.ireturn, 1) := by decide +kernel
abbrev A_X12_areaOf_5 (l : Launch) (E : bE) (Q : Int → Prop) (v1 : Int) (v2 : Int) (M : bM) : (Int × Int) → Prop := (fun t : Int × Int => V l E xX12_areaOf (0, 0) 5 [(0, bR 11), (1, bI v1), (2, bI v2), (3, bI (t.1)), (4, bI (t.2))] [] M (b_pIp M Q))
abbrev X_X12_areaOf_5 (l : Launch) (E : bE) (Q : Int → Prop) (v1 : Int) (v2 : Int) (M : bM) : (Int) → Prop := (fun t : Int => V l E xX12_areaOf (0, 0) 68 [(3, bI t)] [] M (b_pIp M Q))
noncomputable def F_X12_areaOf_s5 (v1 : Int) (v2 : Int) (v3 : Int) (v4 : Int) (M : bM) : Option ((Int × Int) ⊕ (Int)) :=
  b_g (0 ≤ v1 ∧ v1 < 60) (if (M 175 v1) ≤ v4 then (some (.inr (v3))) else (b_g ((b_i32 (v2 + v4)) ∧ (0 ≤ (v2 + v4) ∧ (v2 + v4) < 26) ∧ (b_i32 ((v2 + v4) + 1)) ∧ (0 ≤ ((v2 + v4) + 1) ∧ ((v2 + v4) + 1) < 26) ∧ (b_i32 ((M 180 (v2 + v4)) * (M 181 ((v2 + v4) + 1)))) ∧ (b_i32 ((M 180 ((v2 + v4) + 1)) * (M 181 (v2 + v4)))) ∧ (b_i32 (((M 180 (v2 + v4)) * (M 181 ((v2 + v4) + 1))) - ((M 180 ((v2 + v4) + 1)) * (M 181 (v2 + v4))))) ∧ (b_i32 (v3 + (((M 180 (v2 + v4)) * (M 181 ((v2 + v4) + 1))) - ((M 180 ((v2 + v4) + 1)) * (M 181 (v2 + v4))))))) (b_let ((v3 + (((M 180 (v2 + v4)) * (M 181 ((v2 + v4) + 1))) - ((M 180 ((v2 + v4) + 1)) * (M 181 (v2 + v4)))))) (fun y11 => b_g (b_i32 (v4 + 1)) (some (.inl (y11, (v4 + 1))))))))
theorem t_X12_areaOf_s5 {l : Launch} {E : bE} {Q : Int → Prop} {v1 : Int} {v2 : Int} {v3 : Int} {v4 : Int} {M : bM} (h : b_wp (F_X12_areaOf_s5 v1 v2 v3 v4 M) (Sum.elim (A_X12_areaOf_5 l E Q v1 v2 M) (X_X12_areaOf_5 l E Q v1 v2 M))) : V l E xX12_areaOf (0, 0) 5 [(0, bR 11), (1, bI v1), (2, bI v2), (3, bI v3), (4, bI v4)] [] M (b_pIp M Q) := by
  unfold F_X12_areaOf_s5 at h
  obtain ⟨g1, h⟩ := b_wp_g h
  refine v_iload (i := 4) 4 rfl dX12_areaOf_5 ?_
  refine v_aload_n (f := 0) 0 rfl dX12_areaOf_7 ?_
  refine v_getR (kf := 27) (kz := 27) rfl kd_11 rfl ⟨by decide, by decide⟩ rfl wf_12_55 dX12_areaOf_8 ?_
  refine v_iload_n (f := 1) 1 rfl dX12_areaOf_11 ?_
  refine v_iaload kd_175 g1 (by decide) dX12_areaOf_12 ?_
  refine v_icmp_ge (tgt := 68) dX12_areaOf_13 (by decide) (fun c2 => ?_) (fun c2 => ?_)
  · replace h := b_wp_t c2 h
    refine v_sub (ls2 := [(3, bI _)]) [3] rfl ?_
    exact h
  · replace h := b_wp_f c2 h
    obtain ⟨⟨g3, g4, g5, g6, g7, g8, g9, g10⟩, h⟩ := b_wp_g h
    refine v_iload_n (f := 3) 3 rfl dX12_areaOf_16 ?_
    refine v_aload_n (f := 0) 0 rfl dX12_areaOf_17 ?_
    refine v_getR (kf := 33) (kz := 33) rfl kd_11 rfl ⟨by decide, by decide⟩ rfl wf_12_70 dX12_areaOf_18 ?_
    refine v_iload_n (f := 2) 2 rfl dX12_areaOf_21 ?_
    refine v_iload (i := 4) 4 rfl dX12_areaOf_22 ?_
    refine v_iaddN g3 dX12_areaOf_24 ?_
    refine v_iaload kd_180 g4 (by decide) dX12_areaOf_25 ?_
    refine v_aload_n (f := 0) 0 rfl dX12_areaOf_26 ?_
    refine v_getR (kf := 34) (kz := 34) rfl kd_11 rfl ⟨by decide, by decide⟩ rfl wf_12_73 dX12_areaOf_27 ?_
    refine v_iload_n (f := 2) 2 rfl dX12_areaOf_30 ?_
    refine v_iload (i := 4) 4 rfl dX12_areaOf_31 ?_
    refine v_iaddN g3 dX12_areaOf_33 ?_
    refine v_iconst ⟨by decide, by decide⟩ dX12_areaOf_34 ?_
    refine v_iaddN g5 dX12_areaOf_35 ?_
    refine v_iaload kd_181 g6 (by decide) dX12_areaOf_36 ?_
    refine v_imulN g7 dX12_areaOf_37 ?_
    refine v_aload_n (f := 0) 0 rfl dX12_areaOf_38 ?_
    refine v_getR (kf := 33) (kz := 33) rfl kd_11 rfl ⟨by decide, by decide⟩ rfl wf_12_70 dX12_areaOf_39 ?_
    refine v_iload_n (f := 2) 2 rfl dX12_areaOf_42 ?_
    refine v_iload (i := 4) 4 rfl dX12_areaOf_43 ?_
    refine v_iaddN g3 dX12_areaOf_45 ?_
    refine v_iconst ⟨by decide, by decide⟩ dX12_areaOf_46 ?_
    refine v_iaddN g5 dX12_areaOf_47 ?_
    refine v_iaload kd_180 g6 (by decide) dX12_areaOf_48 ?_
    refine v_aload_n (f := 0) 0 rfl dX12_areaOf_49 ?_
    refine v_getR (kf := 34) (kz := 34) rfl kd_11 rfl ⟨by decide, by decide⟩ rfl wf_12_73 dX12_areaOf_50 ?_
    refine v_iload_n (f := 2) 2 rfl dX12_areaOf_53 ?_
    refine v_iload (i := 4) 4 rfl dX12_areaOf_54 ?_
    refine v_iaddN g3 dX12_areaOf_56 ?_
    refine v_iaload kd_181 g4 (by decide) dX12_areaOf_57 ?_
    refine v_imulN g8 dX12_areaOf_58 ?_
    refine v_isubN g9 dX12_areaOf_59 ?_
    refine v_iaddN g10 dX12_areaOf_60 ?_
    replace h := b_wp_l h
    obtain ⟨g12, h⟩ := b_wp_g h
    refine v_istore_n (g := 3) (i := 3) (ls' := [(3, bI _), (0, bR _), (1, bI _), (2, bI _), (4, bI _)]) rfl (by decide) dX12_areaOf_61 rfl ?_
    refine v_iincN (ls' := [(4, bI _), (3, bI _), (0, bR _), (1, bI _), (2, bI _)]) 4 rfl (by decide) g12 dX12_areaOf_62 rfl ?_
    refine v_goto (tgt := 5) dX12_areaOf_65 (by decide) ?_
    refine v_sub (ls2 := [(0, bR _), (1, bI _), (2, bI _), (3, bI _), (4, bI _)]) [2, 3, 4, 1, 0] rfl ?_
    exact h
theorem l_X12_areaOf_5 {l : Launch} {E : bE} {Q : Int → Prop} {v1 : Int} {v2 : Int} {M : bM} {s : Int × Int} (h : b_wp (b_loop (fun t => F_X12_areaOf_s5 v1 v2 t.1 t.2 M) s) (X_X12_areaOf_5 l E Q v1 v2 M)) : A_X12_areaOf_5 l E Q v1 v2 M s := b_loop_wp (fun t h => t_X12_areaOf_s5 h) s h
noncomputable def F_X12_areaOf_b68 (v3 : Int) (M : bM) : Option (Int) :=
  if 0 ≤ v3 then (some (i_div v3 2)) else (b_g (b_i32 (-v3)) (some (i_div (-v3) 2)))
theorem t_X12_areaOf_b68 {l : Launch} {E : bE} {Q : Int → Prop} {v3 : Int} {M : bM} (h : b_wp (F_X12_areaOf_b68 v3 M) (Q)) : V l E xX12_areaOf (0, 0) 68 [(3, bI v3)] [] M (b_pIp M Q) := by
  unfold F_X12_areaOf_b68 at h
  refine v_iload_n (f := 3) 0 rfl dX12_areaOf_68 ?_
  refine v_if_ge (tgt := 79) dX12_areaOf_69 (by decide) (fun c13 => ?_) (fun c13 => ?_)
  · replace h := b_wp_t c13 h
    refine v_iload_n (f := 3) 0 rfl dX12_areaOf_79 ?_
    refine v_iconst ⟨by decide, by decide⟩ dX12_areaOf_80 ?_
    refine v_idiv (v := i_div _ _) (by decide) rfl dX12_areaOf_81 ?_
    refine v_ireturn rfl dX12_areaOf_82 ⟨by decide, by decide⟩ ?_
    exact ⟨_, rfl, rfl, h⟩
  · replace h := b_wp_f c13 h
    obtain ⟨g14, h⟩ := b_wp_g h
    refine v_iload_n (f := 3) 0 rfl dX12_areaOf_72 ?_
    refine v_inegN g14 dX12_areaOf_73 ?_
    refine v_iconst ⟨by decide, by decide⟩ dX12_areaOf_74 ?_
    refine v_idiv (v := i_div _ _) (by decide) rfl dX12_areaOf_75 ?_
    refine v_goto (tgt := 82) dX12_areaOf_76 (by decide) ?_
    refine v_ireturn rfl dX12_areaOf_82 ⟨by decide, by decide⟩ ?_
    exact ⟨_, rfl, rfl, h⟩
noncomputable def F_X12_areaOf (v1 : Int) (v2 : Int) (M : bM) : Option (Int) :=
  b_bind (b_loop (fun t => F_X12_areaOf_s5 v1 v2 t.1 t.2 M) (0, 0)) (fun t => F_X12_areaOf_b68 t M)
theorem t_X12_areaOf {l : Launch} {E : bE} {Q : Int → Prop} {v1 : Int} {v2 : Int} {M : bM} (h : b_wp (F_X12_areaOf v1 v2 M) (Q)) : V l E xX12_areaOf (0, 0) 0 [(0, bR 11), (1, bI v1), (2, bI v2)] [] M (b_pIp M Q) := by
  unfold F_X12_areaOf at h
  refine v_iconst ⟨by decide, by decide⟩ dX12_areaOf_0 ?_
  refine v_istore_n (g := 3) (i := 3) (ls' := [(3, bI _), (0, bR _), (1, bI _), (2, bI _)]) rfl (by decide) dX12_areaOf_1 rfl ?_
  refine v_iconst ⟨by decide, by decide⟩ dX12_areaOf_2 ?_
  refine v_istore (i := 4) (ls' := [(4, bI _), (3, bI _), (0, bR _), (1, bI _), (2, bI _)]) (by decide) dX12_areaOf_3 rfl ?_
  refine v_sub (ls2 := [(0, bR _), (1, bI _), (2, bI _), (3, bI _), (4, bI _)]) [2, 3, 4, 1, 0] rfl ?_
  refine l_X12_areaOf_5 (b_wp_m (fun t h => ?_) (b_wp_b h))
  show V l E xX12_areaOf (0, 0) 68 [(3, bI _)] [] _ (b_pIp M Q)
  exact t_X12_areaOf_b68 h
theorem cf_X12_areaOf {l : Launch} {E : bE} {M : bM} {v1 : Int} {v2 : Int} {Q : Int → Prop} (h : b_wp (F_X12_areaOf v1 v2 M) Q) : b_C l E xX12_areaOf yX12_areaOf [bR 11, bI v1, bI v2] M (b_pIp M Q) := b_met (by decide) ⟨rfl, rfl⟩ (Nat.le_of_ble_eq_true rfl) (fun _ _ => t_X12_areaOf h)
abbrev xX12_area : bX := ("BurntHallModel", prog_14_method_51_code, 2, (Option.some Jvm.ClassFile.FieldType.int), b_rm 4 0 0, 0, "area")
abbrev yX12_area : MethodName := ⟨"BurntHallModel", "area", "(I)I"⟩
theorem dX12_area_0 : decode prog_14_method_51_code 0 = .ok (.aload_n 0, 1) := by decide +kernel
theorem dX12_area_1 : decode prog_14_method_51_code 1 = .ok (.iload_n 1, 1) := by decide +kernel
theorem dX12_area_2 : decode prog_14_method_51_code 2 = .ok (.invokevirtual 402, 3) := by decide +kernel
theorem dX12_area_5 : decode prog_14_method_51_code 5 = .ok (.ifCond .eq 9, 3) := by decide +kernel
theorem dX12_area_8 : decode prog_14_method_51_code 8 = .ok (.aload_n 0, 1) := by decide +kernel
theorem dX12_area_9 : decode prog_14_method_51_code 9 = .ok (.iload_n 1, 1) := by decide +kernel
theorem dX12_area_10 : decode prog_14_method_51_code 10 = .ok (.invokevirtual 402, 3) := by decide +kernel
theorem dX12_area_13 : decode prog_14_method_51_code 13 = .ok (.ireturn, 1) := by decide +kernel
theorem dX12_area_14 : decode prog_14_method_51_code 14 = .ok (.aload_n 0, 1) := by decide +kernel
theorem dX12_area_15 : decode prog_14_method_51_code 15 = .ok (.iload_n 1, 1) := by decide +kernel
theorem dX12_area_16 : decode prog_14_method_51_code 16 = .ok (.iconst 0, 1) := by decide +kernel
theorem dX12_area_17 : decode prog_14_method_51_code 17 = .ok (.invokevirtual 427, 3) := by decide +kernel
theorem dX12_area_20 : decode prog_14_method_51_code 20 = .ok (.ifCond .eq 12, 3) := by decide +kernel
theorem dX12_area_23 : decode prog_14_method_51_code 23 = .ok (.aload_n 0, 1) := by decide +kernel
theorem dX12_area_24 : decode prog_14_method_51_code 24 = .ok (.iload_n 1, 1) := by decide +kernel
theorem dX12_area_25 : decode prog_14_method_51_code 25 = .ok (.iconst 0, 1) := by decide +kernel
theorem dX12_area_26 : decode prog_14_method_51_code 26 = .ok (.invokevirtual 430, 3) := by decide +kernel
theorem dX12_area_29 : decode prog_14_method_51_code 29 = .ok (.goto 4, 3) := by decide +kernel
theorem dX12_area_32 : decode prog_14_method_51_code 32 = .ok (.iconst (-1), 1) := by decide +kernel
theorem dX12_area_33 : decode prog_14_method_51_code 33 = .ok (.ireturn, 1) := by decide +kernel
noncomputable def F_X12_area (v1 : Int) (M : bM) : Option (Int × bM) :=
  b_bind (F_X12_bad v1 M) (fun x1 => if x1 = 0 then (b_bind (F_X12_isArea v1 0 M) (fun t => b_two t (fun x3 M4 => if x3 = 0 then (some ((-1), M4)) else (b_bind (F_X12_areaOf v1 0 M4) (fun x6 => some (x6, M4)))))) else (b_bind (F_X12_bad v1 M) (fun x7 => some (x7, M))))
theorem t_X12_area {l : Launch} {E : bE} {Q : (Int × bM) → Prop} {v1 : Int} {M : bM} (h : b_wp (F_X12_area v1 M) (Q)) : V l E xX12_area (0, 0) 0 [(0, bR 11), (1, bI v1)] [] M (b_pI Q) := by
  unfold F_X12_area at h
  refine v_aload_n (f := 0) 0 rfl dX12_area_0 ?_
  refine v_iload_n (f := 1) 1 rfl dX12_area_1 ?_
  refine v_cVIp (nA := 1) (As := [bI _]) (ix := 402) (cf_X12_bad (b_wp_b h)) rfl kd_11 rfl rfl wc_X12_bad wm_12_402 wi_X12_bad ws_X12_bad wn_12 ⟨by decide, by decide, by decide⟩ rfl ⟨by decide, by decide⟩ ⟨by decide, by decide⟩ (Nat.le_of_ble_eq_true rfl) dX12_area_2 (fun x1 h => ?_)
  refine v_if_eq (tgt := 14) dX12_area_5 (by decide) (fun c2 => ?_) (fun c2 => ?_)
  · replace h := b_wp_t c2 h
    refine v_aload_n (f := 0) 0 rfl dX12_area_14 ?_
    refine v_iload_n (f := 1) 1 rfl dX12_area_15 ?_
    refine v_iconst ⟨by decide, by decide⟩ dX12_area_16 ?_
    refine v_cVI (nA := 2) (As := [bI _, bI _]) (ix := 427) (cf_X12_isArea (b_wp_b h)) rfl kd_11 rfl rfl wc_X12_isArea wm_12_427 wi_X12_isArea ws_X12_isArea wn_12 ⟨by decide, by decide, by decide⟩ rfl ⟨by decide, by decide⟩ ⟨by decide, by decide⟩ (Nat.le_of_ble_eq_true rfl) dX12_area_17 (fun x3 M4 h => ?_)
    replace h := b_wp_two h
    refine v_if_eq (tgt := 32) dX12_area_20 (by decide) (fun c5 => ?_) (fun c5 => ?_)
    · replace h := b_wp_t c5 h
      refine v_iconst ⟨by decide, by decide⟩ dX12_area_32 ?_
      refine v_ireturn rfl dX12_area_33 ⟨by decide, by decide⟩ ?_
      exact ⟨_, rfl, h⟩
    · replace h := b_wp_f c5 h
      refine v_aload_n (f := 0) 0 rfl dX12_area_23 ?_
      refine v_iload_n (f := 1) 1 rfl dX12_area_24 ?_
      refine v_iconst ⟨by decide, by decide⟩ dX12_area_25 ?_
      refine v_cVIp (nA := 2) (As := [bI _, bI _]) (ix := 430) (cf_X12_areaOf (b_wp_b h)) rfl kd_11 rfl rfl wc_X12_areaOf wm_12_430 wi_X12_areaOf ws_X12_areaOf wn_12 ⟨by decide, by decide, by decide⟩ rfl ⟨by decide, by decide⟩ ⟨by decide, by decide⟩ (Nat.le_of_ble_eq_true rfl) dX12_area_26 (fun x6 h => ?_)
      refine v_goto (tgt := 33) dX12_area_29 (by decide) ?_
      refine v_ireturn rfl dX12_area_33 ⟨by decide, by decide⟩ ?_
      exact ⟨_, rfl, h⟩
  · replace h := b_wp_f c2 h
    refine v_aload_n (f := 0) 0 rfl dX12_area_8 ?_
    refine v_iload_n (f := 1) 1 rfl dX12_area_9 ?_
    refine v_cVIp (nA := 1) (As := [bI _]) (ix := 402) (cf_X12_bad (b_wp_b h)) rfl kd_11 rfl rfl wc_X12_bad wm_12_402 wi_X12_bad ws_X12_bad wn_12 ⟨by decide, by decide, by decide⟩ rfl ⟨by decide, by decide⟩ ⟨by decide, by decide⟩ (Nat.le_of_ble_eq_true rfl) dX12_area_10 (fun x7 h => ?_)
    refine v_ireturn rfl dX12_area_13 ⟨by decide, by decide⟩ ?_
    exact ⟨_, rfl, h⟩
theorem cf_X12_area {l : Launch} {E : bE} {M : bM} {v1 : Int} {Q : (Int × bM) → Prop} (h : b_wp (F_X12_area v1 M) Q) : b_C l E xX12_area yX12_area [bR 11, bI v1] M (b_pI Q) := b_met (by decide) ⟨rfl, rfl⟩ (Nat.le_of_ble_eq_true rfl) (fun _ _ => t_X12_area h)
abbrev xX12_isWithin : bX := ("BurntHallModel", prog_14_method_52_code, 7, (Option.some Jvm.ClassFile.FieldType.boolean), b_rm 2 0 0, 0, "isWithin")
abbrev yX12_isWithin : MethodName := ⟨"BurntHallModel", "isWithin", "(IIII)Z"⟩
theorem dX12_isWithin_0 : decode prog_14_method_52_code 0 = .ok (.iconst 0, 1) := by decide +kernel
theorem dX12_isWithin_1 : decode prog_14_method_52_code 1 = .ok (.istore 5, 2) := by decide +kernel
theorem dX12_isWithin_3 : decode prog_14_method_52_code 3 = .ok (.iload_n 2, 1) := by decide +kernel
theorem dX12_isWithin_4 : decode prog_14_method_52_code 4 = .ok (.istore 6, 2) := by decide +kernel
theorem dX12_isWithin_6 : decode prog_14_method_52_code 6 = .ok (.iload 6, 2) := by decide +kernel
theorem dX12_isWithin_8 : decode prog_14_method_52_code 8 = .ok (.iload_n 2, 1) := by decide +kernel
theorem dX12_isWithin_9 : decode prog_14_method_52_code 9 = .ok (.aload_n 0, 1) := by decide +kernel
theorem dX12_isWithin_10 : decode prog_14_method_52_code 10 = .ok (.getfield 55, 3) := by decide +kernel
theorem dX12_isWithin_13 : decode prog_14_method_52_code 13 = .ok (.iload_n 1, 1) := by decide +kernel
theorem dX12_isWithin_14 : decode prog_14_method_52_code 14 = .ok (.iaload, 1) := by decide +kernel
theorem dX12_isWithin_15 : decode prog_14_method_52_code 15 = .ok (.iadd, 1) := by decide +kernel
theorem dX12_isWithin_16 : decode prog_14_method_52_code 16 = .ok (.if_icmp .ge 106, 3) := by decide +kernel
theorem dX12_isWithin_19 : decode prog_14_method_52_code 19 = .ok (.aload_n 0, 1) := by decide +kernel
theorem dX12_isWithin_20 : decode prog_14_method_52_code 20 = .ok (.getfield 70, 3) := by decide +kernel
theorem dX12_isWithin_23 : decode prog_14_method_52_code 23 = .ok (.iload 6, 2) := by decide +kernel
theorem dX12_isWithin_25 : decode prog_14_method_52_code 25 = .ok (.iaload, 1) := by decide +kernel
theorem dX12_isWithin_26 : decode prog_14_method_52_code 26 = .ok (.aload_n 0, 1) := by decide +kernel
theorem dX12_isWithin_27 : decode prog_14_method_52_code 27 = .ok (.getfield 70, 3) := by decide +kernel
theorem dX12_isWithin_30 : decode prog_14_method_52_code 30 = .ok (.iload 6, 2) := by decide +kernel
theorem dX12_isWithin_32 : decode prog_14_method_52_code 32 = .ok (.iconst 1, 1) := by decide +kernel
theorem dX12_isWithin_33 : decode prog_14_method_52_code 33 = .ok (.iadd, 1) := by decide +kernel
theorem dX12_isWithin_34 : decode prog_14_method_52_code 34 = .ok (.iaload, 1) := by decide +kernel
theorem dX12_isWithin_35 : decode prog_14_method_52_code 35 = .ok (.if_icmp .ne 81, 3) := by decide +kernel
theorem dX12_isWithin_38 : decode prog_14_method_52_code 38 = .ok (.iconst 2, 1) := by decide +kernel
theorem dX12_isWithin_39 : decode prog_14_method_52_code 39 = .ok (.aload_n 0, 1) := by decide +kernel
theorem dX12_isWithin_40 : decode prog_14_method_52_code 40 = .ok (.getfield 70, 3) := by decide +kernel
theorem dX12_isWithin_43 : decode prog_14_method_52_code 43 = .ok (.iload 6, 2) := by decide +kernel
theorem dX12_isWithin_45 : decode prog_14_method_52_code 45 = .ok (.iaload, 1) := by decide +kernel
theorem dX12_isWithin_46 : decode prog_14_method_52_code 46 = .ok (.imul, 1) := by decide +kernel
theorem dX12_isWithin_47 : decode prog_14_method_52_code 47 = .ok (.iload_n 3, 1) := by decide +kernel
theorem dX12_isWithin_48 : decode prog_14_method_52_code 48 = .ok (.if_icmp .ge 6, 3) := by decide +kernel
theorem dX12_isWithin_51 : decode prog_14_method_52_code 51 = .ok (.goto 65, 3) := by decide +kernel
theorem dX12_isWithin_54 : decode prog_14_method_52_code 54 = .ok (.iload 5, 2) := by decide +kernel
theorem dX12_isWithin_56 : decode prog_14_method_52_code 56 = .ok (.iconst 2, 1) := by decide +kernel
theorem dX12_isWithin_57 : decode prog_14_method_52_code 57 = .ok (.aload_n 0, 1) := by decide +kernel
theorem dX12_isWithin_58 : decode prog_14_method_52_code 58 = .ok (.getfield 73, 3) := by decide +kernel
theorem dX12_isWithin_61 : decode prog_14_method_52_code 61 = .ok (.iload 6, 2) := by decide +kernel
theorem dX12_isWithin_63 : decode prog_14_method_52_code 63 = .ok (.iaload, 1) := by decide +kernel
theorem dX12_isWithin_64 : decode prog_14_method_52_code 64 = .ok (.aload_n 0, 1) := by decide +kernel
theorem dX12_isWithin_65 : decode prog_14_method_52_code 65 = .ok (.getfield 73, 3) := by decide +kernel
theorem dX12_isWithin_68 : decode prog_14_method_52_code 68 = .ok (.iload 6, 2) := by decide +kernel
theorem dX12_isWithin_70 : decode prog_14_method_52_code 70 = .ok (.iconst 1, 1) := by decide +kernel
theorem dX12_isWithin_71 : decode prog_14_method_52_code 71 = .ok (.iadd, 1) := by decide +kernel
theorem dX12_isWithin_72 : decode prog_14_method_52_code 72 = .ok (.iaload, 1) := by decide +kernel
theorem dX12_isWithin_73 : decode prog_14_method_52_code 73 = .ok (.invokestatic 414, 3) := by decide +kernel
theorem dX12_isWithin_76 : decode prog_14_method_52_code 76 = .ok (.imul, 1) := by decide +kernel
theorem dX12_isWithin_77 : decode prog_14_method_52_code 77 = .ok (.iload 4, 2) := by decide +kernel
theorem dX12_isWithin_79 : decode prog_14_method_52_code 79 = .ok (.if_icmp .ge 33, 3) := by decide +kernel
theorem dX12_isWithin_82 : decode prog_14_method_52_code 82 = .ok (.iload 4, 2) := by decide +kernel
theorem dX12_isWithin_84 : decode prog_14_method_52_code 84 = .ok (.iconst 2, 1) := by decide +kernel
theorem dX12_isWithin_85 : decode prog_14_method_52_code 85 = .ok (.aload_n 0, 1) := by decide +kernel
theorem dX12_isWithin_86 : decode prog_14_method_52_code 86 = .ok (.getfield 73, 3) := by decide +kernel
theorem dX12_isWithin_89 : decode prog_14_method_52_code 89 = .ok (.iload 6, 2) := by decide +kernel
theorem dX12_isWithin_91 : decode prog_14_method_52_code 91 = .ok (.iaload, 1) := by decide +kernel
theorem dX12_isWithin_92 : decode prog_14_method_52_code 92 = .ok (.aload_n 0, 1) := by decide +kernel
theorem dX12_isWithin_93 : decode prog_14_method_52_code 93 = .ok (.getfield 73, 3) := by decide +kernel
theorem dX12_isWithin_96 : decode prog_14_method_52_code 96 = .ok (.iload 6, 2) := by decide +kernel
theorem dX12_isWithin_98 : decode prog_14_method_52_code 98 = .ok (.iconst 1, 1) := by decide +kernel
theorem dX12_isWithin_99 : decode prog_14_method_52_code 99 = .ok (.iadd, 1) := by decide +kernel
theorem dX12_isWithin_100 : decode prog_14_method_52_code 100 = .ok (.iaload, 1) := by decide +kernel
theorem dX12_isWithin_101 : decode prog_14_method_52_code 101 = .ok (.invokestatic 417, 3) := by decide +kernel
theorem dX12_isWithin_104 : decode prog_14_method_52_code 104 = .ok (.imul, 1) := by decide +kernel
theorem dX12_isWithin_105 : decode prog_14_method_52_code 105 = .ok (.if_icmp .ge 7, 3) := by decide +kernel
theorem dX12_isWithin_108 : decode prog_14_method_52_code 108 = .ok (.iconst 1, 1) := by decide +kernel
theorem dX12_isWithin_109 : decode prog_14_method_52_code 109 = .ok (.goto 4, 3) := by decide +kernel
theorem dX12_isWithin_112 : decode prog_14_method_52_code 112 = .ok (.iconst 0, 1) := by decide +kernel
theorem dX12_isWithin_113 : decode prog_14_method_52_code 113 = .ok (.ixor, 1) := by decide +kernel
theorem dX12_isWithin_114 : decode prog_14_method_52_code 114 = .ok (.istore 5, 2) := by decide +kernel
theorem dX12_isWithin_116 : decode prog_14_method_52_code 116 = .ok (.iinc 6 1, 3) := by decide +kernel
theorem dX12_isWithin_119 : decode prog_14_method_52_code 119 = .ok (.goto (-113), 3) := by decide +kernel
theorem dX12_isWithin_122 : decode prog_14_method_52_code 122 = .ok (.iload 5, 2) := by decide +kernel
theorem dX12_isWithin_124 : decode prog_14_method_52_code 124 = .ok (.ireturn, 1) := by decide +kernel
abbrev A_X12_isWithin_6 (l : Launch) (E : bE) (Q : Int → Prop) (v1 : Int) (v2 : Int) (v3 : Int) (v4 : Int) (M : bM) : (Int × Int) → Prop := (fun t : Int × Int => V l E xX12_isWithin (0, 0) 6 [(0, bR 11), (1, bI v1), (2, bI v2), (3, bI v3), (4, bI v4), (5, bI (t.1)), (6, bI (t.2))] [] M (b_pIp M Q))
abbrev X_X12_isWithin_6 (l : Launch) (E : bE) (Q : Int → Prop) (v1 : Int) (v2 : Int) (v3 : Int) (v4 : Int) (M : bM) : (Int) → Prop := (fun t : Int => V l E xX12_isWithin (0, 0) 122 [(5, bI t)] [] M (b_pIp M Q))
noncomputable def F_X12_isWithin_b113 (v1 : Int) (v2 : Int) (v3 : Int) (v4 : Int) (v6 : Int) (u0 : Int) (u1 : Int) (M : bM) : Option ((Int × Int) ⊕ (Int)) :=
  b_let ((i_xor u0 u1)) (fun y18 => b_g (b_i32 (v6 + 1)) (some (.inl (y18, (v6 + 1)))))
theorem t_X12_isWithin_b113 {l : Launch} {E : bE} {Q : Int → Prop} {v1 : Int} {v2 : Int} {v3 : Int} {v4 : Int} {v6 : Int} {u0 : Int} {u1 : Int} {M : bM} (h : b_wp (F_X12_isWithin_b113 v1 v2 v3 v4 v6 u0 u1 M) (Sum.elim (A_X12_isWithin_6 l E Q v1 v2 v3 v4 M) (X_X12_isWithin_6 l E Q v1 v2 v3 v4 M))) : V l E xX12_isWithin (0, 0) 113 [(0, bR 11), (1, bI v1), (2, bI v2), (3, bI v3), (4, bI v4), (6, bI v6)] [bI u1, bI u0] M (b_pIp M Q) := by
  unfold F_X12_isWithin_b113 at h
  refine v_ixor (v := i_xor _ _) rfl dX12_isWithin_113 ?_
  replace h := b_wp_l h
  obtain ⟨g19, h⟩ := b_wp_g h
  refine v_istore (i := 5) (ls' := [(5, bI _), (0, bR _), (1, bI _), (2, bI _), (3, bI _), (4, bI _), (6, bI _)]) (by decide) dX12_isWithin_114 rfl ?_
  refine v_iincN (ls' := [(6, bI _), (5, bI _), (0, bR _), (1, bI _), (2, bI _), (3, bI _), (4, bI _)]) 6 rfl (by decide) g19 dX12_isWithin_116 rfl ?_
  refine v_goto (tgt := 6) dX12_isWithin_119 (by decide) ?_
  refine v_sub (ls2 := [(0, bR _), (1, bI _), (2, bI _), (3, bI _), (4, bI _), (5, bI _), (6, bI _)]) [2, 3, 4, 5, 6, 1, 0] rfl ?_
  exact h
noncomputable def F_X12_isWithin_b112 (v1 : Int) (v2 : Int) (v3 : Int) (v4 : Int) (v6 : Int) (u0 : Int) (M : bM) : Option ((Int × Int) ⊕ (Int)) :=
  F_X12_isWithin_b113 v1 v2 v3 v4 v6 u0 0 M
theorem t_X12_isWithin_b112 {l : Launch} {E : bE} {Q : Int → Prop} {v1 : Int} {v2 : Int} {v3 : Int} {v4 : Int} {v6 : Int} {u0 : Int} {M : bM} (h : b_wp (F_X12_isWithin_b112 v1 v2 v3 v4 v6 u0 M) (Sum.elim (A_X12_isWithin_6 l E Q v1 v2 v3 v4 M) (X_X12_isWithin_6 l E Q v1 v2 v3 v4 M))) : V l E xX12_isWithin (0, 0) 112 [(0, bR 11), (1, bI v1), (2, bI v2), (3, bI v3), (4, bI v4), (6, bI v6)] [bI u0] M (b_pIp M Q) := by
  unfold F_X12_isWithin_b112 at h
  refine v_iconst ⟨by decide, by decide⟩ dX12_isWithin_112 ?_
  exact t_X12_isWithin_b113 h
noncomputable def F_X12_isWithin_s6 (v1 : Int) (v2 : Int) (v3 : Int) (v4 : Int) (v5 : Int) (v6 : Int) (M : bM) : Option ((Int × Int) ⊕ (Int)) :=
  b_g ((0 ≤ v1 ∧ v1 < 60) ∧ (b_i32 (v2 + (M 175 v1)))) (if (v2 + (M 175 v1)) ≤ v6 then (some (.inr (v5))) else (b_g ((0 ≤ v6 ∧ v6 < 26) ∧ (b_i32 (v6 + 1)) ∧ (0 ≤ (v6 + 1) ∧ (v6 + 1) < 26)) (if (M 180 v6) = (M 180 (v6 + 1)) then (b_g ((0 ≤ v6 ∧ v6 < 26) ∧ (b_i32 (2 * (M 180 v6)))) (if v3 ≤ (2 * (M 180 v6)) then (b_g ((0 ≤ v6 ∧ v6 < 26) ∧ (b_i32 (v6 + 1)) ∧ (0 ≤ (v6 + 1) ∧ (v6 + 1) < 26)) (b_bind (F_X12_lesser (M 181 v6) (M 181 (v6 + 1)) M) (fun x15 => b_g (b_i32 (2 * x15)) (if v4 ≤ (2 * x15) then (F_X12_isWithin_b112 v1 v2 v3 v4 v6 v5 M) else (b_g ((0 ≤ v6 ∧ v6 < 26) ∧ (b_i32 (v6 + 1)) ∧ (0 ≤ (v6 + 1) ∧ (v6 + 1) < 26)) (b_bind (F_X12_greater (M 181 v6) (M 181 (v6 + 1)) M) (fun x23 => b_g (b_i32 (2 * x23)) (if (2 * x23) ≤ v4 then (F_X12_isWithin_b112 v1 v2 v3 v4 v6 v5 M) else (F_X12_isWithin_b113 v1 v2 v3 v4 v6 v5 1 M))))))))) else (b_g (b_i32 (v6 + 1)) (some (.inl (v5, (v6 + 1))))))) else (b_g (b_i32 (v6 + 1)) (some (.inl (v5, (v6 + 1))))))))
theorem t_X12_isWithin_s6 {l : Launch} {E : bE} {Q : Int → Prop} {v1 : Int} {v2 : Int} {v3 : Int} {v4 : Int} {v5 : Int} {v6 : Int} {M : bM} (h : b_wp (F_X12_isWithin_s6 v1 v2 v3 v4 v5 v6 M) (Sum.elim (A_X12_isWithin_6 l E Q v1 v2 v3 v4 M) (X_X12_isWithin_6 l E Q v1 v2 v3 v4 M))) : V l E xX12_isWithin (0, 0) 6 [(0, bR 11), (1, bI v1), (2, bI v2), (3, bI v3), (4, bI v4), (5, bI v5), (6, bI v6)] [] M (b_pIp M Q) := by
  unfold F_X12_isWithin_s6 at h
  obtain ⟨⟨g1, g2⟩, h⟩ := b_wp_g h
  refine v_iload (i := 6) 6 rfl dX12_isWithin_6 ?_
  refine v_iload_n (f := 2) 2 rfl dX12_isWithin_8 ?_
  refine v_aload_n (f := 0) 0 rfl dX12_isWithin_9 ?_
  refine v_getR (kf := 27) (kz := 27) rfl kd_11 rfl ⟨by decide, by decide⟩ rfl wf_12_55 dX12_isWithin_10 ?_
  refine v_iload_n (f := 1) 1 rfl dX12_isWithin_13 ?_
  refine v_iaload kd_175 g1 (by decide) dX12_isWithin_14 ?_
  refine v_iaddN g2 dX12_isWithin_15 ?_
  refine v_icmp_ge (tgt := 122) dX12_isWithin_16 (by decide) (fun c3 => ?_) (fun c3 => ?_)
  · replace h := b_wp_t c3 h
    refine v_sub (ls2 := [(5, bI _)]) [5] rfl ?_
    exact h
  · replace h := b_wp_f c3 h
    obtain ⟨⟨g4, g5, g6⟩, h⟩ := b_wp_g h
    refine v_aload_n (f := 0) 0 rfl dX12_isWithin_19 ?_
    refine v_getR (kf := 33) (kz := 33) rfl kd_11 rfl ⟨by decide, by decide⟩ rfl wf_12_70 dX12_isWithin_20 ?_
    refine v_iload (i := 6) 6 rfl dX12_isWithin_23 ?_
    refine v_iaload kd_180 g4 (by decide) dX12_isWithin_25 ?_
    refine v_aload_n (f := 0) 0 rfl dX12_isWithin_26 ?_
    refine v_getR (kf := 33) (kz := 33) rfl kd_11 rfl ⟨by decide, by decide⟩ rfl wf_12_70 dX12_isWithin_27 ?_
    refine v_iload (i := 6) 6 rfl dX12_isWithin_30 ?_
    refine v_iconst ⟨by decide, by decide⟩ dX12_isWithin_32 ?_
    refine v_iaddN g5 dX12_isWithin_33 ?_
    refine v_iaload kd_180 g6 (by decide) dX12_isWithin_34 ?_
    refine v_icmp_ne (tgt := 116) dX12_isWithin_35 (by decide) (fun c7 => ?_) (fun c7 => ?_)
    · replace h := b_wp_f c7 h
      obtain ⟨g8, h⟩ := b_wp_g h
      refine v_iincN (ls' := [(6, bI _), (0, bR _), (1, bI _), (2, bI _), (3, bI _), (4, bI _), (5, bI _)]) 6 rfl (by decide) g8 dX12_isWithin_116 rfl ?_
      refine v_goto (tgt := 6) dX12_isWithin_119 (by decide) ?_
      refine v_sub (ls2 := [(0, bR _), (1, bI _), (2, bI _), (3, bI _), (4, bI _), (5, bI _), (6, bI _)]) [1, 2, 3, 4, 5, 6, 0] rfl ?_
      exact h
    · replace h := b_wp_t c7 h
      obtain ⟨⟨g9, g10⟩, h⟩ := b_wp_g h
      refine v_iconst ⟨by decide, by decide⟩ dX12_isWithin_38 ?_
      refine v_aload_n (f := 0) 0 rfl dX12_isWithin_39 ?_
      refine v_getR (kf := 33) (kz := 33) rfl kd_11 rfl ⟨by decide, by decide⟩ rfl wf_12_70 dX12_isWithin_40 ?_
      refine v_iload (i := 6) 6 rfl dX12_isWithin_43 ?_
      refine v_iaload kd_180 g9 (by decide) dX12_isWithin_45 ?_
      refine v_imulN g10 dX12_isWithin_46 ?_
      refine v_iload_n (f := 3) 3 rfl dX12_isWithin_47 ?_
      refine v_icmp_ge (tgt := 54) dX12_isWithin_48 (by decide) (fun c11 => ?_) (fun c11 => ?_)
      · replace h := b_wp_t c11 h
        obtain ⟨⟨g12, g13, g14⟩, h⟩ := b_wp_g h
        refine v_iload (i := 5) 5 rfl dX12_isWithin_54 ?_
        refine v_iconst ⟨by decide, by decide⟩ dX12_isWithin_56 ?_
        refine v_aload_n (f := 0) 0 rfl dX12_isWithin_57 ?_
        refine v_getR (kf := 34) (kz := 34) rfl kd_11 rfl ⟨by decide, by decide⟩ rfl wf_12_73 dX12_isWithin_58 ?_
        refine v_iload (i := 6) 6 rfl dX12_isWithin_61 ?_
        refine v_iaload kd_181 g12 (by decide) dX12_isWithin_63 ?_
        refine v_aload_n (f := 0) 0 rfl dX12_isWithin_64 ?_
        refine v_getR (kf := 34) (kz := 34) rfl kd_11 rfl ⟨by decide, by decide⟩ rfl wf_12_73 dX12_isWithin_65 ?_
        refine v_iload (i := 6) 6 rfl dX12_isWithin_68 ?_
        refine v_iconst ⟨by decide, by decide⟩ dX12_isWithin_70 ?_
        refine v_iaddN g13 dX12_isWithin_71 ?_
        refine v_iaload kd_181 g14 (by decide) dX12_isWithin_72 ?_
        refine v_cSIp (nA := 2) (As := [bI _, bI _]) (ix := 414) (cf_X12_lesser (b_wp_b h)) rfl wc_X12_lesser wm_12_414 wi_X12_lesser wn_12 ⟨by decide, by decide, by decide⟩ rfl ⟨by decide, by decide⟩ ⟨by decide, by decide⟩ (Nat.le_of_ble_eq_true rfl) dX12_isWithin_73 (fun x15 h => ?_)
        obtain ⟨g16, h⟩ := b_wp_g h
        refine v_imulN g16 dX12_isWithin_76 ?_
        refine v_iload (i := 4) 4 rfl dX12_isWithin_77 ?_
        refine v_icmp_ge (tgt := 112) dX12_isWithin_79 (by decide) (fun c17 => ?_) (fun c17 => ?_)
        · replace h := b_wp_t c17 h
          refine v_sub (ls2 := [(0, bR _), (1, bI _), (2, bI _), (3, bI _), (4, bI _), (6, bI _)]) [0, 1, 2, 3, 4, 6] rfl ?_
          exact t_X12_isWithin_b112 h
        · replace h := b_wp_f c17 h
          obtain ⟨⟨g20, g21, g22⟩, h⟩ := b_wp_g h
          refine v_iload (i := 4) 4 rfl dX12_isWithin_82 ?_
          refine v_iconst ⟨by decide, by decide⟩ dX12_isWithin_84 ?_
          refine v_aload_n (f := 0) 0 rfl dX12_isWithin_85 ?_
          refine v_getR (kf := 34) (kz := 34) rfl kd_11 rfl ⟨by decide, by decide⟩ rfl wf_12_73 dX12_isWithin_86 ?_
          refine v_iload (i := 6) 6 rfl dX12_isWithin_89 ?_
          refine v_iaload kd_181 g20 (by decide) dX12_isWithin_91 ?_
          refine v_aload_n (f := 0) 0 rfl dX12_isWithin_92 ?_
          refine v_getR (kf := 34) (kz := 34) rfl kd_11 rfl ⟨by decide, by decide⟩ rfl wf_12_73 dX12_isWithin_93 ?_
          refine v_iload (i := 6) 6 rfl dX12_isWithin_96 ?_
          refine v_iconst ⟨by decide, by decide⟩ dX12_isWithin_98 ?_
          refine v_iaddN g21 dX12_isWithin_99 ?_
          refine v_iaload kd_181 g22 (by decide) dX12_isWithin_100 ?_
          refine v_cSIp (nA := 2) (As := [bI _, bI _]) (ix := 417) (cf_X12_greater (b_wp_b h)) rfl wc_X12_greater wm_12_417 wi_X12_greater wn_12 ⟨by decide, by decide, by decide⟩ rfl ⟨by decide, by decide⟩ ⟨by decide, by decide⟩ (Nat.le_of_ble_eq_true rfl) dX12_isWithin_101 (fun x23 h => ?_)
          obtain ⟨g24, h⟩ := b_wp_g h
          refine v_imulN g24 dX12_isWithin_104 ?_
          refine v_icmp_ge (tgt := 112) dX12_isWithin_105 (by decide) (fun c25 => ?_) (fun c25 => ?_)
          · replace h := b_wp_t c25 h
            refine v_sub (ls2 := [(0, bR _), (1, bI _), (2, bI _), (3, bI _), (4, bI _), (6, bI _)]) [0, 1, 2, 3, 4, 6] rfl ?_
            exact t_X12_isWithin_b112 h
          · replace h := b_wp_f c25 h
            refine v_iconst ⟨by decide, by decide⟩ dX12_isWithin_108 ?_
            refine v_goto (tgt := 113) dX12_isWithin_109 (by decide) ?_
            refine v_sub (ls2 := [(0, bR _), (1, bI _), (2, bI _), (3, bI _), (4, bI _), (6, bI _)]) [0, 1, 2, 3, 4, 6] rfl ?_
            exact t_X12_isWithin_b113 h
      · replace h := b_wp_f c11 h
        obtain ⟨g26, h⟩ := b_wp_g h
        refine v_goto (tgt := 116) dX12_isWithin_51 (by decide) ?_
        refine v_iincN (ls' := [(6, bI _), (0, bR _), (1, bI _), (2, bI _), (3, bI _), (4, bI _), (5, bI _)]) 6 rfl (by decide) g26 dX12_isWithin_116 rfl ?_
        refine v_goto (tgt := 6) dX12_isWithin_119 (by decide) ?_
        refine v_sub (ls2 := [(0, bR _), (1, bI _), (2, bI _), (3, bI _), (4, bI _), (5, bI _), (6, bI _)]) [1, 2, 3, 4, 5, 6, 0] rfl ?_
        exact h
theorem l_X12_isWithin_6 {l : Launch} {E : bE} {Q : Int → Prop} {v1 : Int} {v2 : Int} {v3 : Int} {v4 : Int} {M : bM} {s : Int × Int} (h : b_wp (b_loop (fun t => F_X12_isWithin_s6 v1 v2 v3 v4 t.1 t.2 M) s) (X_X12_isWithin_6 l E Q v1 v2 v3 v4 M)) : A_X12_isWithin_6 l E Q v1 v2 v3 v4 M s := b_loop_wp (fun t h => t_X12_isWithin_s6 h) s h
noncomputable def F_X12_isWithin_b122 (v5 : Int) (M : bM) : Option (Int) :=
  b_g (v5 = 0 ∨ v5 = 1) (some v5)
theorem t_X12_isWithin_b122 {l : Launch} {E : bE} {Q : Int → Prop} {v5 : Int} {M : bM} (h : b_wp (F_X12_isWithin_b122 v5 M) (Q)) : V l E xX12_isWithin (0, 0) 122 [(5, bI v5)] [] M (b_pIp M Q) := by
  unfold F_X12_isWithin_b122 at h
  obtain ⟨g27, h⟩ := b_wp_g h
  refine v_iload (i := 5) 0 rfl dX12_isWithin_122 ?_
  refine v_zreturn rfl g27 dX12_isWithin_124 ⟨by decide, by decide⟩ ?_
  exact ⟨_, rfl, rfl, h⟩
noncomputable def F_X12_isWithin (v1 : Int) (v2 : Int) (v3 : Int) (v4 : Int) (M : bM) : Option (Int) :=
  b_bind (b_loop (fun t => F_X12_isWithin_s6 v1 v2 v3 v4 t.1 t.2 M) (0, v2)) (fun t => F_X12_isWithin_b122 t M)
theorem t_X12_isWithin {l : Launch} {E : bE} {Q : Int → Prop} {v1 : Int} {v2 : Int} {v3 : Int} {v4 : Int} {M : bM} (h : b_wp (F_X12_isWithin v1 v2 v3 v4 M) (Q)) : V l E xX12_isWithin (0, 0) 0 [(0, bR 11), (1, bI v1), (2, bI v2), (3, bI v3), (4, bI v4)] [] M (b_pIp M Q) := by
  unfold F_X12_isWithin at h
  refine v_iconst ⟨by decide, by decide⟩ dX12_isWithin_0 ?_
  refine v_istore (i := 5) (ls' := [(5, bI _), (0, bR _), (1, bI _), (2, bI _), (3, bI _), (4, bI _)]) (by decide) dX12_isWithin_1 rfl ?_
  refine v_iload_n (f := 2) 3 rfl dX12_isWithin_3 ?_
  refine v_istore (i := 6) (ls' := [(6, bI _), (5, bI _), (0, bR _), (1, bI _), (2, bI _), (3, bI _), (4, bI _)]) (by decide) dX12_isWithin_4 rfl ?_
  refine v_sub (ls2 := [(0, bR _), (1, bI _), (2, bI _), (3, bI _), (4, bI _), (5, bI _), (6, bI _)]) [2, 3, 4, 5, 6, 1, 0] rfl ?_
  refine l_X12_isWithin_6 (b_wp_m (fun t h => ?_) (b_wp_b h))
  show V l E xX12_isWithin (0, 0) 122 [(5, bI _)] [] _ (b_pIp M Q)
  exact t_X12_isWithin_b122 h
theorem cf_X12_isWithin {l : Launch} {E : bE} {M : bM} {v1 : Int} {v2 : Int} {v3 : Int} {v4 : Int} {Q : Int → Prop} (h : b_wp (F_X12_isWithin v1 v2 v3 v4 M) Q) : b_C l E xX12_isWithin yX12_isWithin [bR 11, bI v1, bI v2, bI v3, bI v4] M (b_pIp M Q) := b_met (by decide) ⟨rfl, rfl⟩ (Nat.le_of_ble_eq_true rfl) (fun _ _ => t_X12_isWithin h)
abbrev xX12_nextOf : bX := ("BurntHallModel", prog_14_method_53_code, 7, (Option.some Jvm.ClassFile.FieldType.int), b_rm 2 0 0, 0, "nextOf")
abbrev yX12_nextOf : MethodName := ⟨"BurntHallModel", "nextOf", "(ZIII)I"⟩
theorem dX12_nextOf_0 : decode prog_14_method_53_code 0 = .ok (.ldc_w 433, 3) := by decide +kernel
theorem dX12_nextOf_3 : decode prog_14_method_53_code 3 = .ok (.istore 5, 2) := by decide +kernel
theorem dX12_nextOf_5 : decode prog_14_method_53_code 5 = .ok (.iconst 0, 1) := by decide +kernel
theorem dX12_nextOf_6 : decode prog_14_method_53_code 6 = .ok (.istore 6, 2) := by decide +kernel
theorem dX12_nextOf_8 : decode prog_14_method_53_code 8 = .ok (.iload 6, 2) := by decide +kernel
theorem dX12_nextOf_10 : decode prog_14_method_53_code 10 = .ok (.aload_n 0, 1) := by decide +kernel
theorem dX12_nextOf_11 : decode prog_14_method_53_code 11 = .ok (.getfield 55, 3) := by decide +kernel
theorem dX12_nextOf_14 : decode prog_14_method_53_code 14 = .ok (.iload_n 3, 1) := by decide +kernel
theorem dX12_nextOf_15 : decode prog_14_method_53_code 15 = .ok (.iaload, 1) := by decide +kernel
theorem dX12_nextOf_16 : decode prog_14_method_53_code 16 = .ok (.if_icmp .ge 67, 3) := by decide +kernel
theorem dX12_nextOf_19 : decode prog_14_method_53_code 19 = .ok (.iload_n 1, 1) := by decide +kernel
theorem dX12_nextOf_20 : decode prog_14_method_53_code 20 = .ok (.ifCond .eq 13, 3) := by decide +kernel
theorem dX12_nextOf_23 : decode prog_14_method_53_code 23 = .ok (.aload_n 0, 1) := by decide +kernel
theorem dX12_nextOf_24 : decode prog_14_method_53_code 24 = .ok (.getfield 70, 3) := by decide +kernel
theorem dX12_nextOf_27 : decode prog_14_method_53_code 27 = .ok (.iload 6, 2) := by decide +kernel
theorem dX12_nextOf_29 : decode prog_14_method_53_code 29 = .ok (.iaload, 1) := by decide +kernel
theorem dX12_nextOf_30 : decode prog_14_method_53_code 30 = .ok (.goto 10, 3) := by decide +kernel
theorem dX12_nextOf_33 : decode prog_14_method_53_code 33 = .ok (.aload_n 0, 1) := by decide +kernel
theorem dX12_nextOf_34 : decode prog_14_method_53_code 34 = .ok (.getfield 73, 3) := by decide +kernel
theorem dX12_nextOf_37 : decode prog_14_method_53_code 37 = .ok (.iload 6, 2) := by decide +kernel
theorem dX12_nextOf_39 : decode prog_14_method_53_code 39 = .ok (.iaload, 1) := by decide +kernel
theorem dX12_nextOf_40 : decode prog_14_method_53_code 40 = .ok (.iload_n 2, 1) := by decide +kernel
theorem dX12_nextOf_41 : decode prog_14_method_53_code 41 = .ok (.if_icmp .le 32, 3) := by decide +kernel
theorem dX12_nextOf_44 : decode prog_14_method_53_code 44 = .ok (.iload 5, 2) := by decide +kernel
theorem dX12_nextOf_46 : decode prog_14_method_53_code 46 = .ok (.iload_n 1, 1) := by decide +kernel
theorem dX12_nextOf_47 : decode prog_14_method_53_code 47 = .ok (.ifCond .eq 13, 3) := by decide +kernel
theorem dX12_nextOf_50 : decode prog_14_method_53_code 50 = .ok (.aload_n 0, 1) := by decide +kernel
theorem dX12_nextOf_51 : decode prog_14_method_53_code 51 = .ok (.getfield 70, 3) := by decide +kernel
theorem dX12_nextOf_54 : decode prog_14_method_53_code 54 = .ok (.iload 6, 2) := by decide +kernel
theorem dX12_nextOf_56 : decode prog_14_method_53_code 56 = .ok (.iaload, 1) := by decide +kernel
theorem dX12_nextOf_57 : decode prog_14_method_53_code 57 = .ok (.goto 10, 3) := by decide +kernel
theorem dX12_nextOf_60 : decode prog_14_method_53_code 60 = .ok (.aload_n 0, 1) := by decide +kernel
theorem dX12_nextOf_61 : decode prog_14_method_53_code 61 = .ok (.getfield 73, 3) := by decide +kernel
theorem dX12_nextOf_64 : decode prog_14_method_53_code 64 = .ok (.iload 6, 2) := by decide +kernel
theorem dX12_nextOf_66 : decode prog_14_method_53_code 66 = .ok (.iaload, 1) := by decide +kernel
theorem dX12_nextOf_67 : decode prog_14_method_53_code 67 = .ok (.invokestatic 414, 3) := by decide +kernel
theorem dX12_nextOf_70 : decode prog_14_method_53_code 70 = .ok (.goto 5, 3) := by decide +kernel
theorem dX12_nextOf_73 : decode prog_14_method_53_code 73 = .ok (.iload 5, 2) := by decide +kernel
theorem dX12_nextOf_75 : decode prog_14_method_53_code 75 = .ok (.istore 5, 2) := by decide +kernel
theorem dX12_nextOf_77 : decode prog_14_method_53_code 77 = .ok (.iinc 6 1, 3) := by decide +kernel
theorem dX12_nextOf_80 : decode prog_14_method_53_code 80 = .ok (.goto (-72), 3) := by decide +kernel
theorem dX12_nextOf_83 : decode prog_14_method_53_code 83 = .ok (.bipush 13, 2) := by decide +kernel
theorem dX12_nextOf_85 : decode prog_14_method_53_code 85 = .ok (.istore 6, 2) := by decide +kernel
theorem dX12_nextOf_87 : decode prog_14_method_53_code 87 = .ok (.iload 6, 2) := by decide +kernel
theorem dX12_nextOf_89 : decode prog_14_method_53_code 89 = .ok (.bipush 13, 2) := by decide +kernel
theorem dX12_nextOf_91 : decode prog_14_method_53_code 91 = .ok (.aload_n 0, 1) := by decide +kernel
theorem dX12_nextOf_92 : decode prog_14_method_53_code 92 = .ok (.getfield 55, 3) := by decide +kernel
theorem dX12_nextOf_95 : decode prog_14_method_53_code 95 = .ok (.iload 4, 2) := by decide +kernel
theorem dX12_nextOf_97 : decode prog_14_method_53_code 97 = .ok (.iaload, 1) := by decide +kernel
theorem dX12_nextOf_98 : decode prog_14_method_53_code 98 = .ok (.iadd, 1) := by decide +kernel
theorem dX12_nextOf_99 : decode prog_14_method_53_code 99 = .ok (.if_icmp .ge 67, 3) := by decide +kernel
theorem dX12_nextOf_102 : decode prog_14_method_53_code 102 = .ok (.iload_n 1, 1) := by decide +kernel
theorem dX12_nextOf_103 : decode prog_14_method_53_code 103 = .ok (.ifCond .eq 13, 3) := by decide +kernel
theorem dX12_nextOf_106 : decode prog_14_method_53_code 106 = .ok (.aload_n 0, 1) := by decide +kernel
theorem dX12_nextOf_107 : decode prog_14_method_53_code 107 = .ok (.getfield 70, 3) := by decide +kernel
theorem dX12_nextOf_110 : decode prog_14_method_53_code 110 = .ok (.iload 6, 2) := by decide +kernel
theorem dX12_nextOf_112 : decode prog_14_method_53_code 112 = .ok (.iaload, 1) := by decide +kernel
theorem dX12_nextOf_113 : decode prog_14_method_53_code 113 = .ok (.goto 10, 3) := by decide +kernel
theorem dX12_nextOf_116 : decode prog_14_method_53_code 116 = .ok (.aload_n 0, 1) := by decide +kernel
theorem dX12_nextOf_117 : decode prog_14_method_53_code 117 = .ok (.getfield 73, 3) := by decide +kernel
theorem dX12_nextOf_120 : decode prog_14_method_53_code 120 = .ok (.iload 6, 2) := by decide +kernel
theorem dX12_nextOf_122 : decode prog_14_method_53_code 122 = .ok (.iaload, 1) := by decide +kernel
theorem dX12_nextOf_123 : decode prog_14_method_53_code 123 = .ok (.iload_n 2, 1) := by decide +kernel
theorem dX12_nextOf_124 : decode prog_14_method_53_code 124 = .ok (.if_icmp .le 32, 3) := by decide +kernel
theorem dX12_nextOf_127 : decode prog_14_method_53_code 127 = .ok (.iload 5, 2) := by decide +kernel
theorem dX12_nextOf_129 : decode prog_14_method_53_code 129 = .ok (.iload_n 1, 1) := by decide +kernel
theorem dX12_nextOf_130 : decode prog_14_method_53_code 130 = .ok (.ifCond .eq 13, 3) := by decide +kernel
theorem dX12_nextOf_133 : decode prog_14_method_53_code 133 = .ok (.aload_n 0, 1) := by decide +kernel
theorem dX12_nextOf_134 : decode prog_14_method_53_code 134 = .ok (.getfield 70, 3) := by decide +kernel
theorem dX12_nextOf_137 : decode prog_14_method_53_code 137 = .ok (.iload 6, 2) := by decide +kernel
theorem dX12_nextOf_139 : decode prog_14_method_53_code 139 = .ok (.iaload, 1) := by decide +kernel
theorem dX12_nextOf_140 : decode prog_14_method_53_code 140 = .ok (.goto 10, 3) := by decide +kernel
theorem dX12_nextOf_143 : decode prog_14_method_53_code 143 = .ok (.aload_n 0, 1) := by decide +kernel
theorem dX12_nextOf_144 : decode prog_14_method_53_code 144 = .ok (.getfield 73, 3) := by decide +kernel
theorem dX12_nextOf_147 : decode prog_14_method_53_code 147 = .ok (.iload 6, 2) := by decide +kernel
theorem dX12_nextOf_149 : decode prog_14_method_53_code 149 = .ok (.iaload, 1) := by decide +kernel
theorem dX12_nextOf_150 : decode prog_14_method_53_code 150 = .ok (.invokestatic 414, 3) := by decide +kernel
theorem dX12_nextOf_153 : decode prog_14_method_53_code 153 = .ok (.goto 5, 3) := by decide +kernel
theorem dX12_nextOf_156 : decode prog_14_method_53_code 156 = .ok (.iload 5, 2) := by decide +kernel
theorem dX12_nextOf_158 : decode prog_14_method_53_code 158 = .ok (.istore 5, 2) := by decide +kernel
theorem dX12_nextOf_160 : decode prog_14_method_53_code 160 = .ok (.iinc 6 1, 3) := by decide +kernel
theorem dX12_nextOf_163 : decode prog_14_method_53_code 163 = .ok (.goto (-76), 3) := by decide +kernel
theorem dX12_nextOf_166 : decode prog_14_method_53_code 166 = .ok (.iload 5, 2) := by decide +kernel
theorem dX12_nextOf_168 : decode prog_14_method_53_code 168 = .ok (.ireturn, 1) := by decide +kernel
abbrev A_X12_nextOf_8 (l : Launch) (E : bE) (Q : Int → Prop) (v1 : Int) (v2 : Int) (v3 : Int) (v4 : Int) (M : bM) : (Int × Int) → Prop := (fun t : Int × Int => V l E xX12_nextOf (0, 0) 8 [(0, bR 11), (1, bI v1), (2, bI v2), (3, bI v3), (4, bI v4), (5, bI (t.1)), (6, bI (t.2))] [] M (b_pIp M Q))
abbrev X_X12_nextOf_8 (l : Launch) (E : bE) (Q : Int → Prop) (v1 : Int) (v2 : Int) (v3 : Int) (v4 : Int) (M : bM) : (Int) → Prop := (fun t : Int => V l E xX12_nextOf (0, 0) 83 [(0, bR 11), (1, bI v1), (2, bI v2), (4, bI v4), (5, bI t)] [] M (b_pIp M Q))
noncomputable def F_X12_nextOf_b67 (v1 : Int) (v2 : Int) (v3 : Int) (v4 : Int) (v6 : Int) (u0 : Int) (u1 : Int) (M : bM) : Option ((Int × Int) ⊕ (Int)) :=
  b_bind (F_X12_lesser u0 u1 M) (fun x9 => b_g (b_i32 (v6 + 1)) (some (.inl (x9, (v6 + 1)))))
theorem t_X12_nextOf_b67 {l : Launch} {E : bE} {Q : Int → Prop} {v1 : Int} {v2 : Int} {v3 : Int} {v4 : Int} {v6 : Int} {u0 : Int} {u1 : Int} {M : bM} (h : b_wp (F_X12_nextOf_b67 v1 v2 v3 v4 v6 u0 u1 M) (Sum.elim (A_X12_nextOf_8 l E Q v1 v2 v3 v4 M) (X_X12_nextOf_8 l E Q v1 v2 v3 v4 M))) : V l E xX12_nextOf (0, 0) 67 [(0, bR 11), (1, bI v1), (2, bI v2), (3, bI v3), (4, bI v4), (6, bI v6)] [bI u1, bI u0] M (b_pIp M Q) := by
  unfold F_X12_nextOf_b67 at h
  refine v_cSIp (nA := 2) (As := [bI _, bI _]) (ix := 414) (cf_X12_lesser (b_wp_b h)) rfl wc_X12_lesser wm_12_414 wi_X12_lesser wn_12 ⟨by decide, by decide, by decide⟩ rfl ⟨by decide, by decide⟩ ⟨by decide, by decide⟩ (Nat.le_of_ble_eq_true rfl) dX12_nextOf_67 (fun x9 h => ?_)
  obtain ⟨g10, h⟩ := b_wp_g h
  refine v_goto (tgt := 75) dX12_nextOf_70 (by decide) ?_
  refine v_istore (i := 5) (ls' := [(5, bI _), (0, bR _), (1, bI _), (2, bI _), (3, bI _), (4, bI _), (6, bI _)]) (by decide) dX12_nextOf_75 rfl ?_
  refine v_iincN (ls' := [(6, bI _), (5, bI _), (0, bR _), (1, bI _), (2, bI _), (3, bI _), (4, bI _)]) 6 rfl (by decide) g10 dX12_nextOf_77 rfl ?_
  refine v_goto (tgt := 8) dX12_nextOf_80 (by decide) ?_
  refine v_sub (ls2 := [(0, bR _), (1, bI _), (2, bI _), (3, bI _), (4, bI _), (5, bI _), (6, bI _)]) [2, 3, 4, 5, 6, 1, 0] rfl ?_
  exact h
noncomputable def F_X12_nextOf_b40 (v1 : Int) (v2 : Int) (v3 : Int) (v4 : Int) (v5 : Int) (v6 : Int) (u0 : Int) (M : bM) : Option ((Int × Int) ⊕ (Int)) :=
  if u0 ≤ v2 then (b_g (b_i32 (v6 + 1)) (some (.inl (v5, (v6 + 1))))) else (if v1 = 0 then (b_g (0 ≤ v6 ∧ v6 < 26) (F_X12_nextOf_b67 v1 v2 v3 v4 v6 v5 (M 181 v6) M)) else (b_g (0 ≤ v6 ∧ v6 < 26) (F_X12_nextOf_b67 v1 v2 v3 v4 v6 v5 (M 180 v6) M)))
theorem t_X12_nextOf_b40 {l : Launch} {E : bE} {Q : Int → Prop} {v1 : Int} {v2 : Int} {v3 : Int} {v4 : Int} {v5 : Int} {v6 : Int} {u0 : Int} {M : bM} (h : b_wp (F_X12_nextOf_b40 v1 v2 v3 v4 v5 v6 u0 M) (Sum.elim (A_X12_nextOf_8 l E Q v1 v2 v3 v4 M) (X_X12_nextOf_8 l E Q v1 v2 v3 v4 M))) : V l E xX12_nextOf (0, 0) 40 [(0, bR 11), (1, bI v1), (2, bI v2), (3, bI v3), (4, bI v4), (5, bI v5), (6, bI v6)] [bI u0] M (b_pIp M Q) := by
  unfold F_X12_nextOf_b40 at h
  refine v_iload_n (f := 2) 2 rfl dX12_nextOf_40 ?_
  refine v_icmp_le (tgt := 73) dX12_nextOf_41 (by decide) (fun c5 => ?_) (fun c5 => ?_)
  · replace h := b_wp_t c5 h
    obtain ⟨g6, h⟩ := b_wp_g h
    refine v_iload (i := 5) 5 rfl dX12_nextOf_73 ?_
    refine v_istore (i := 5) (ls' := [(5, bI _), (0, bR _), (1, bI _), (2, bI _), (3, bI _), (4, bI _), (6, bI _)]) (by decide) dX12_nextOf_75 rfl ?_
    refine v_iincN (ls' := [(6, bI _), (5, bI _), (0, bR _), (1, bI _), (2, bI _), (3, bI _), (4, bI _)]) 6 rfl (by decide) g6 dX12_nextOf_77 rfl ?_
    refine v_goto (tgt := 8) dX12_nextOf_80 (by decide) ?_
    refine v_sub (ls2 := [(0, bR _), (1, bI _), (2, bI _), (3, bI _), (4, bI _), (5, bI _), (6, bI _)]) [2, 3, 4, 5, 6, 1, 0] rfl ?_
    exact h
  · replace h := b_wp_f c5 h
    refine v_iload (i := 5) 5 rfl dX12_nextOf_44 ?_
    refine v_iload_n (f := 1) 1 rfl dX12_nextOf_46 ?_
    refine v_if_eq (tgt := 60) dX12_nextOf_47 (by decide) (fun c7 => ?_) (fun c7 => ?_)
    · replace h := b_wp_t c7 h
      obtain ⟨g8, h⟩ := b_wp_g h
      refine v_aload_n (f := 0) 0 rfl dX12_nextOf_60 ?_
      refine v_getR (kf := 34) (kz := 34) rfl kd_11 rfl ⟨by decide, by decide⟩ rfl wf_12_73 dX12_nextOf_61 ?_
      refine v_iload (i := 6) 6 rfl dX12_nextOf_64 ?_
      refine v_iaload kd_181 g8 (by decide) dX12_nextOf_66 ?_
      refine v_sub (ls2 := [(0, bR _), (1, bI _), (2, bI _), (3, bI _), (4, bI _), (6, bI _)]) [0, 1, 2, 3, 4, 6] rfl ?_
      exact t_X12_nextOf_b67 h
    · replace h := b_wp_f c7 h
      obtain ⟨g11, h⟩ := b_wp_g h
      refine v_aload_n (f := 0) 0 rfl dX12_nextOf_50 ?_
      refine v_getR (kf := 33) (kz := 33) rfl kd_11 rfl ⟨by decide, by decide⟩ rfl wf_12_70 dX12_nextOf_51 ?_
      refine v_iload (i := 6) 6 rfl dX12_nextOf_54 ?_
      refine v_iaload kd_180 g11 (by decide) dX12_nextOf_56 ?_
      refine v_goto (tgt := 67) dX12_nextOf_57 (by decide) ?_
      refine v_sub (ls2 := [(0, bR _), (1, bI _), (2, bI _), (3, bI _), (4, bI _), (6, bI _)]) [0, 1, 2, 3, 4, 6] rfl ?_
      exact t_X12_nextOf_b67 h
noncomputable def F_X12_nextOf_s8 (v1 : Int) (v2 : Int) (v3 : Int) (v4 : Int) (v5 : Int) (v6 : Int) (M : bM) : Option ((Int × Int) ⊕ (Int)) :=
  b_g (0 ≤ v3 ∧ v3 < 60) (if (M 175 v3) ≤ v6 then (some (.inr (v5))) else (if v1 = 0 then (b_g (0 ≤ v6 ∧ v6 < 26) (F_X12_nextOf_b40 v1 v2 v3 v4 v5 v6 (M 181 v6) M)) else (b_g (0 ≤ v6 ∧ v6 < 26) (F_X12_nextOf_b40 v1 v2 v3 v4 v5 v6 (M 180 v6) M))))
theorem t_X12_nextOf_s8 {l : Launch} {E : bE} {Q : Int → Prop} {v1 : Int} {v2 : Int} {v3 : Int} {v4 : Int} {v5 : Int} {v6 : Int} {M : bM} (h : b_wp (F_X12_nextOf_s8 v1 v2 v3 v4 v5 v6 M) (Sum.elim (A_X12_nextOf_8 l E Q v1 v2 v3 v4 M) (X_X12_nextOf_8 l E Q v1 v2 v3 v4 M))) : V l E xX12_nextOf (0, 0) 8 [(0, bR 11), (1, bI v1), (2, bI v2), (3, bI v3), (4, bI v4), (5, bI v5), (6, bI v6)] [] M (b_pIp M Q) := by
  unfold F_X12_nextOf_s8 at h
  obtain ⟨g1, h⟩ := b_wp_g h
  refine v_iload (i := 6) 6 rfl dX12_nextOf_8 ?_
  refine v_aload_n (f := 0) 0 rfl dX12_nextOf_10 ?_
  refine v_getR (kf := 27) (kz := 27) rfl kd_11 rfl ⟨by decide, by decide⟩ rfl wf_12_55 dX12_nextOf_11 ?_
  refine v_iload_n (f := 3) 3 rfl dX12_nextOf_14 ?_
  refine v_iaload kd_175 g1 (by decide) dX12_nextOf_15 ?_
  refine v_icmp_ge (tgt := 83) dX12_nextOf_16 (by decide) (fun c2 => ?_) (fun c2 => ?_)
  · replace h := b_wp_t c2 h
    refine v_sub (ls2 := [(0, bR _), (1, bI _), (2, bI _), (4, bI _), (5, bI _)]) [0, 1, 2, 4, 5] rfl ?_
    exact h
  · replace h := b_wp_f c2 h
    refine v_iload_n (f := 1) 1 rfl dX12_nextOf_19 ?_
    refine v_if_eq (tgt := 33) dX12_nextOf_20 (by decide) (fun c3 => ?_) (fun c3 => ?_)
    · replace h := b_wp_t c3 h
      obtain ⟨g4, h⟩ := b_wp_g h
      refine v_aload_n (f := 0) 0 rfl dX12_nextOf_33 ?_
      refine v_getR (kf := 34) (kz := 34) rfl kd_11 rfl ⟨by decide, by decide⟩ rfl wf_12_73 dX12_nextOf_34 ?_
      refine v_iload (i := 6) 6 rfl dX12_nextOf_37 ?_
      refine v_iaload kd_181 g4 (by decide) dX12_nextOf_39 ?_
      exact t_X12_nextOf_b40 h
    · replace h := b_wp_f c3 h
      obtain ⟨g12, h⟩ := b_wp_g h
      refine v_aload_n (f := 0) 0 rfl dX12_nextOf_23 ?_
      refine v_getR (kf := 33) (kz := 33) rfl kd_11 rfl ⟨by decide, by decide⟩ rfl wf_12_70 dX12_nextOf_24 ?_
      refine v_iload (i := 6) 6 rfl dX12_nextOf_27 ?_
      refine v_iaload kd_180 g12 (by decide) dX12_nextOf_29 ?_
      refine v_goto (tgt := 40) dX12_nextOf_30 (by decide) ?_
      exact t_X12_nextOf_b40 h
theorem l_X12_nextOf_8 {l : Launch} {E : bE} {Q : Int → Prop} {v1 : Int} {v2 : Int} {v3 : Int} {v4 : Int} {M : bM} {s : Int × Int} (h : b_wp (b_loop (fun t => F_X12_nextOf_s8 v1 v2 v3 v4 t.1 t.2 M) s) (X_X12_nextOf_8 l E Q v1 v2 v3 v4 M)) : A_X12_nextOf_8 l E Q v1 v2 v3 v4 M s := b_loop_wp (fun t h => t_X12_nextOf_s8 h) s h
abbrev A_X12_nextOf_87 (l : Launch) (E : bE) (Q : Int → Prop) (v1 : Int) (v2 : Int) (v4 : Int) (M : bM) : (Int × Int) → Prop := (fun t : Int × Int => V l E xX12_nextOf (0, 0) 87 [(0, bR 11), (1, bI v1), (2, bI v2), (4, bI v4), (5, bI (t.1)), (6, bI (t.2))] [] M (b_pIp M Q))
abbrev X_X12_nextOf_87 (l : Launch) (E : bE) (Q : Int → Prop) (v1 : Int) (v2 : Int) (v4 : Int) (M : bM) : (Int) → Prop := (fun t : Int => V l E xX12_nextOf (0, 0) 166 [(5, bI t)] [] M (b_pIp M Q))
noncomputable def F_X12_nextOf_b150 (v1 : Int) (v2 : Int) (v4 : Int) (v6 : Int) (u0 : Int) (u1 : Int) (M : bM) : Option ((Int × Int) ⊕ (Int)) :=
  b_bind (F_X12_lesser u0 u1 M) (fun x22 => b_g (b_i32 (v6 + 1)) (some (.inl (x22, (v6 + 1)))))
theorem t_X12_nextOf_b150 {l : Launch} {E : bE} {Q : Int → Prop} {v1 : Int} {v2 : Int} {v4 : Int} {v6 : Int} {u0 : Int} {u1 : Int} {M : bM} (h : b_wp (F_X12_nextOf_b150 v1 v2 v4 v6 u0 u1 M) (Sum.elim (A_X12_nextOf_87 l E Q v1 v2 v4 M) (X_X12_nextOf_87 l E Q v1 v2 v4 M))) : V l E xX12_nextOf (0, 0) 150 [(0, bR 11), (1, bI v1), (2, bI v2), (4, bI v4), (6, bI v6)] [bI u1, bI u0] M (b_pIp M Q) := by
  unfold F_X12_nextOf_b150 at h
  refine v_cSIp (nA := 2) (As := [bI _, bI _]) (ix := 414) (cf_X12_lesser (b_wp_b h)) rfl wc_X12_lesser wm_12_414 wi_X12_lesser wn_12 ⟨by decide, by decide, by decide⟩ rfl ⟨by decide, by decide⟩ ⟨by decide, by decide⟩ (Nat.le_of_ble_eq_true rfl) dX12_nextOf_150 (fun x22 h => ?_)
  obtain ⟨g23, h⟩ := b_wp_g h
  refine v_goto (tgt := 158) dX12_nextOf_153 (by decide) ?_
  refine v_istore (i := 5) (ls' := [(5, bI _), (0, bR _), (1, bI _), (2, bI _), (4, bI _), (6, bI _)]) (by decide) dX12_nextOf_158 rfl ?_
  refine v_iincN (ls' := [(6, bI _), (5, bI _), (0, bR _), (1, bI _), (2, bI _), (4, bI _)]) 5 rfl (by decide) g23 dX12_nextOf_160 rfl ?_
  refine v_goto (tgt := 87) dX12_nextOf_163 (by decide) ?_
  refine v_sub (ls2 := [(0, bR _), (1, bI _), (2, bI _), (4, bI _), (5, bI _), (6, bI _)]) [2, 3, 4, 5, 1, 0] rfl ?_
  exact h
noncomputable def F_X12_nextOf_b123 (v1 : Int) (v2 : Int) (v4 : Int) (v5 : Int) (v6 : Int) (u0 : Int) (M : bM) : Option ((Int × Int) ⊕ (Int)) :=
  if u0 ≤ v2 then (b_g (b_i32 (v6 + 1)) (some (.inl (v5, (v6 + 1))))) else (if v1 = 0 then (b_g (0 ≤ v6 ∧ v6 < 26) (F_X12_nextOf_b150 v1 v2 v4 v6 v5 (M 181 v6) M)) else (b_g (0 ≤ v6 ∧ v6 < 26) (F_X12_nextOf_b150 v1 v2 v4 v6 v5 (M 180 v6) M)))
theorem t_X12_nextOf_b123 {l : Launch} {E : bE} {Q : Int → Prop} {v1 : Int} {v2 : Int} {v4 : Int} {v5 : Int} {v6 : Int} {u0 : Int} {M : bM} (h : b_wp (F_X12_nextOf_b123 v1 v2 v4 v5 v6 u0 M) (Sum.elim (A_X12_nextOf_87 l E Q v1 v2 v4 M) (X_X12_nextOf_87 l E Q v1 v2 v4 M))) : V l E xX12_nextOf (0, 0) 123 [(0, bR 11), (1, bI v1), (2, bI v2), (4, bI v4), (5, bI v5), (6, bI v6)] [bI u0] M (b_pIp M Q) := by
  unfold F_X12_nextOf_b123 at h
  refine v_iload_n (f := 2) 2 rfl dX12_nextOf_123 ?_
  refine v_icmp_le (tgt := 156) dX12_nextOf_124 (by decide) (fun c18 => ?_) (fun c18 => ?_)
  · replace h := b_wp_t c18 h
    obtain ⟨g19, h⟩ := b_wp_g h
    refine v_iload (i := 5) 4 rfl dX12_nextOf_156 ?_
    refine v_istore (i := 5) (ls' := [(5, bI _), (0, bR _), (1, bI _), (2, bI _), (4, bI _), (6, bI _)]) (by decide) dX12_nextOf_158 rfl ?_
    refine v_iincN (ls' := [(6, bI _), (5, bI _), (0, bR _), (1, bI _), (2, bI _), (4, bI _)]) 5 rfl (by decide) g19 dX12_nextOf_160 rfl ?_
    refine v_goto (tgt := 87) dX12_nextOf_163 (by decide) ?_
    refine v_sub (ls2 := [(0, bR _), (1, bI _), (2, bI _), (4, bI _), (5, bI _), (6, bI _)]) [2, 3, 4, 5, 1, 0] rfl ?_
    exact h
  · replace h := b_wp_f c18 h
    refine v_iload (i := 5) 4 rfl dX12_nextOf_127 ?_
    refine v_iload_n (f := 1) 1 rfl dX12_nextOf_129 ?_
    refine v_if_eq (tgt := 143) dX12_nextOf_130 (by decide) (fun c20 => ?_) (fun c20 => ?_)
    · replace h := b_wp_t c20 h
      obtain ⟨g21, h⟩ := b_wp_g h
      refine v_aload_n (f := 0) 0 rfl dX12_nextOf_143 ?_
      refine v_getR (kf := 34) (kz := 34) rfl kd_11 rfl ⟨by decide, by decide⟩ rfl wf_12_73 dX12_nextOf_144 ?_
      refine v_iload (i := 6) 5 rfl dX12_nextOf_147 ?_
      refine v_iaload kd_181 g21 (by decide) dX12_nextOf_149 ?_
      refine v_sub (ls2 := [(0, bR _), (1, bI _), (2, bI _), (4, bI _), (6, bI _)]) [0, 1, 2, 3, 5] rfl ?_
      exact t_X12_nextOf_b150 h
    · replace h := b_wp_f c20 h
      obtain ⟨g24, h⟩ := b_wp_g h
      refine v_aload_n (f := 0) 0 rfl dX12_nextOf_133 ?_
      refine v_getR (kf := 33) (kz := 33) rfl kd_11 rfl ⟨by decide, by decide⟩ rfl wf_12_70 dX12_nextOf_134 ?_
      refine v_iload (i := 6) 5 rfl dX12_nextOf_137 ?_
      refine v_iaload kd_180 g24 (by decide) dX12_nextOf_139 ?_
      refine v_goto (tgt := 150) dX12_nextOf_140 (by decide) ?_
      refine v_sub (ls2 := [(0, bR _), (1, bI _), (2, bI _), (4, bI _), (6, bI _)]) [0, 1, 2, 3, 5] rfl ?_
      exact t_X12_nextOf_b150 h
noncomputable def F_X12_nextOf_s87 (v1 : Int) (v2 : Int) (v4 : Int) (v5 : Int) (v6 : Int) (M : bM) : Option ((Int × Int) ⊕ (Int)) :=
  b_g ((0 ≤ v4 ∧ v4 < 60) ∧ (b_i32 (13 + (M 175 v4)))) (if (13 + (M 175 v4)) ≤ v6 then (some (.inr (v5))) else (if v1 = 0 then (b_g (0 ≤ v6 ∧ v6 < 26) (F_X12_nextOf_b123 v1 v2 v4 v5 v6 (M 181 v6) M)) else (b_g (0 ≤ v6 ∧ v6 < 26) (F_X12_nextOf_b123 v1 v2 v4 v5 v6 (M 180 v6) M))))
theorem t_X12_nextOf_s87 {l : Launch} {E : bE} {Q : Int → Prop} {v1 : Int} {v2 : Int} {v4 : Int} {v5 : Int} {v6 : Int} {M : bM} (h : b_wp (F_X12_nextOf_s87 v1 v2 v4 v5 v6 M) (Sum.elim (A_X12_nextOf_87 l E Q v1 v2 v4 M) (X_X12_nextOf_87 l E Q v1 v2 v4 M))) : V l E xX12_nextOf (0, 0) 87 [(0, bR 11), (1, bI v1), (2, bI v2), (4, bI v4), (5, bI v5), (6, bI v6)] [] M (b_pIp M Q) := by
  unfold F_X12_nextOf_s87 at h
  obtain ⟨⟨g13, g14⟩, h⟩ := b_wp_g h
  refine v_iload (i := 6) 5 rfl dX12_nextOf_87 ?_
  refine v_bipush ⟨by decide, by decide⟩ (by decide) dX12_nextOf_89 ?_
  refine v_aload_n (f := 0) 0 rfl dX12_nextOf_91 ?_
  refine v_getR (kf := 27) (kz := 27) rfl kd_11 rfl ⟨by decide, by decide⟩ rfl wf_12_55 dX12_nextOf_92 ?_
  refine v_iload (i := 4) 3 rfl dX12_nextOf_95 ?_
  refine v_iaload kd_175 g13 (by decide) dX12_nextOf_97 ?_
  refine v_iaddN g14 dX12_nextOf_98 ?_
  refine v_icmp_ge (tgt := 166) dX12_nextOf_99 (by decide) (fun c15 => ?_) (fun c15 => ?_)
  · replace h := b_wp_t c15 h
    refine v_sub (ls2 := [(5, bI _)]) [4] rfl ?_
    exact h
  · replace h := b_wp_f c15 h
    refine v_iload_n (f := 1) 1 rfl dX12_nextOf_102 ?_
    refine v_if_eq (tgt := 116) dX12_nextOf_103 (by decide) (fun c16 => ?_) (fun c16 => ?_)
    · replace h := b_wp_t c16 h
      obtain ⟨g17, h⟩ := b_wp_g h
      refine v_aload_n (f := 0) 0 rfl dX12_nextOf_116 ?_
      refine v_getR (kf := 34) (kz := 34) rfl kd_11 rfl ⟨by decide, by decide⟩ rfl wf_12_73 dX12_nextOf_117 ?_
      refine v_iload (i := 6) 5 rfl dX12_nextOf_120 ?_
      refine v_iaload kd_181 g17 (by decide) dX12_nextOf_122 ?_
      exact t_X12_nextOf_b123 h
    · replace h := b_wp_f c16 h
      obtain ⟨g25, h⟩ := b_wp_g h
      refine v_aload_n (f := 0) 0 rfl dX12_nextOf_106 ?_
      refine v_getR (kf := 33) (kz := 33) rfl kd_11 rfl ⟨by decide, by decide⟩ rfl wf_12_70 dX12_nextOf_107 ?_
      refine v_iload (i := 6) 5 rfl dX12_nextOf_110 ?_
      refine v_iaload kd_180 g25 (by decide) dX12_nextOf_112 ?_
      refine v_goto (tgt := 123) dX12_nextOf_113 (by decide) ?_
      exact t_X12_nextOf_b123 h
theorem l_X12_nextOf_87 {l : Launch} {E : bE} {Q : Int → Prop} {v1 : Int} {v2 : Int} {v4 : Int} {M : bM} {s : Int × Int} (h : b_wp (b_loop (fun t => F_X12_nextOf_s87 v1 v2 v4 t.1 t.2 M) s) (X_X12_nextOf_87 l E Q v1 v2 v4 M)) : A_X12_nextOf_87 l E Q v1 v2 v4 M s := b_loop_wp (fun t h => t_X12_nextOf_s87 h) s h
noncomputable def F_X12_nextOf_b166 (v5 : Int) (M : bM) : Option (Int) :=
  some v5
theorem t_X12_nextOf_b166 {l : Launch} {E : bE} {Q : Int → Prop} {v5 : Int} {M : bM} (h : b_wp (F_X12_nextOf_b166 v5 M) (Q)) : V l E xX12_nextOf (0, 0) 166 [(5, bI v5)] [] M (b_pIp M Q) := by
  unfold F_X12_nextOf_b166 at h
  refine v_iload (i := 5) 0 rfl dX12_nextOf_166 ?_
  refine v_ireturn rfl dX12_nextOf_168 ⟨by decide, by decide⟩ ?_
  exact ⟨_, rfl, rfl, h⟩
noncomputable def F_X12_nextOf_b83 (v1 : Int) (v2 : Int) (v4 : Int) (v5 : Int) (M : bM) : Option (Int) :=
  b_bind (b_loop (fun t => F_X12_nextOf_s87 v1 v2 v4 t.1 t.2 M) (v5, 13)) (fun t => F_X12_nextOf_b166 t M)
theorem t_X12_nextOf_b83 {l : Launch} {E : bE} {Q : Int → Prop} {v1 : Int} {v2 : Int} {v4 : Int} {v5 : Int} {M : bM} (h : b_wp (F_X12_nextOf_b83 v1 v2 v4 v5 M) (Q)) : V l E xX12_nextOf (0, 0) 83 [(0, bR 11), (1, bI v1), (2, bI v2), (4, bI v4), (5, bI v5)] [] M (b_pIp M Q) := by
  unfold F_X12_nextOf_b83 at h
  refine v_bipush ⟨by decide, by decide⟩ (by decide) dX12_nextOf_83 ?_
  refine v_istore (i := 6) (ls' := [(6, bI _), (0, bR _), (1, bI _), (2, bI _), (4, bI _), (5, bI _)]) (by decide) dX12_nextOf_85 rfl ?_
  refine v_sub (ls2 := [(0, bR _), (1, bI _), (2, bI _), (4, bI _), (5, bI _), (6, bI _)]) [1, 2, 3, 4, 5, 0] rfl ?_
  refine l_X12_nextOf_87 (b_wp_m (fun t h => ?_) (b_wp_b h))
  show V l E xX12_nextOf (0, 0) 166 [(5, bI _)] [] _ (b_pIp M Q)
  exact t_X12_nextOf_b166 h
noncomputable def F_X12_nextOf (v1 : Int) (v2 : Int) (v3 : Int) (v4 : Int) (M : bM) : Option (Int) :=
  b_bind (b_loop (fun t => F_X12_nextOf_s8 v1 v2 v3 v4 t.1 t.2 M) (99980001, 0)) (fun t => F_X12_nextOf_b83 v1 v2 v4 t M)
theorem t_X12_nextOf {l : Launch} {E : bE} {Q : Int → Prop} {v1 : Int} {v2 : Int} {v3 : Int} {v4 : Int} {M : bM} (h : b_wp (F_X12_nextOf v1 v2 v3 v4 M) (Q)) : V l E xX12_nextOf (0, 0) 0 [(0, bR 11), (1, bI v1), (2, bI v2), (3, bI v3), (4, bI v4)] [] M (b_pIp M Q) := by
  unfold F_X12_nextOf at h
  refine v_ldcw (n := 99980001) ⟨by decide, by decide⟩ wk_12_433 dX12_nextOf_0 ?_
  refine v_istore (i := 5) (ls' := [(5, bI _), (0, bR _), (1, bI _), (2, bI _), (3, bI _), (4, bI _)]) (by decide) dX12_nextOf_3 rfl ?_
  refine v_iconst ⟨by decide, by decide⟩ dX12_nextOf_5 ?_
  refine v_istore (i := 6) (ls' := [(6, bI _), (5, bI _), (0, bR _), (1, bI _), (2, bI _), (3, bI _), (4, bI _)]) (by decide) dX12_nextOf_6 rfl ?_
  refine v_sub (ls2 := [(0, bR _), (1, bI _), (2, bI _), (3, bI _), (4, bI _), (5, bI _), (6, bI _)]) [2, 3, 4, 5, 6, 1, 0] rfl ?_
  refine l_X12_nextOf_8 (b_wp_m (fun t h => ?_) (b_wp_b h))
  show V l E xX12_nextOf (0, 0) 83 [(0, bR 11), (1, bI _), (2, bI _), (4, bI _), (5, bI _)] [] _ (b_pIp M Q)
  exact t_X12_nextOf_b83 h
theorem cf_X12_nextOf {l : Launch} {E : bE} {M : bM} {v1 : Int} {v2 : Int} {v3 : Int} {v4 : Int} {Q : Int → Prop} (h : b_wp (F_X12_nextOf v1 v2 v3 v4 M) Q) : b_C l E xX12_nextOf yX12_nextOf [bR 11, bI v1, bI v2, bI v3, bI v4] M (b_pIp M Q) := b_met (by decide) ⟨rfl, rfl⟩ (Nat.le_of_ble_eq_true rfl) (fun _ _ => t_X12_nextOf h)
abbrev xX12_strip : bX := ("BurntHallModel", prog_14_method_54_code, 8, (Option.some Jvm.ClassFile.FieldType.int), b_rm 4 0 0, 0, "strip")
abbrev yX12_strip : MethodName := ⟨"BurntHallModel", "strip", "(II)I"⟩
theorem dX12_strip_0 : decode prog_14_method_54_code 0 = .ok (.aload_n 0, 1) := by decide +kernel
theorem dX12_strip_1 : decode prog_14_method_54_code 1 = .ok (.iload_n 1, 1) := by decide +kernel
theorem dX12_strip_2 : decode prog_14_method_54_code 2 = .ok (.invokevirtual 385, 3) := by decide +kernel
theorem dX12_strip_5 : decode prog_14_method_54_code 5 = .ok (.ifCond .eq 16, 3) := by decide +kernel
theorem dX12_strip_8 : decode prog_14_method_54_code 8 = .ok (.aload_n 0, 1) := by decide +kernel
theorem dX12_strip_9 : decode prog_14_method_54_code 9 = .ok (.iload_n 2, 1) := by decide +kernel
theorem dX12_strip_10 : decode prog_14_method_54_code 10 = .ok (.invokevirtual 385, 3) := by decide +kernel
theorem dX12_strip_13 : decode prog_14_method_54_code 13 = .ok (.ifCond .eq 8, 3) := by decide +kernel
theorem dX12_strip_16 : decode prog_14_method_54_code 16 = .ok (.iload_n 1, 1) := by decide +kernel
theorem dX12_strip_17 : decode prog_14_method_54_code 17 = .ok (.iload_n 2, 1) := by decide +kernel
theorem dX12_strip_18 : decode prog_14_method_54_code 18 = .ok (.if_icmp .ne 6, 3) := by decide +kernel
theorem dX12_strip_21 : decode prog_14_method_54_code 21 = .ok (.bipush (-2), 2) := by decide +kernel
theorem dX12_strip_23 : decode prog_14_method_54_code 23 = .ok (.ireturn, 1) := by decide +kernel
theorem dX12_strip_24 : decode prog_14_method_54_code 24 = .ok (.aload_n 0, 1) := by decide +kernel
theorem dX12_strip_25 : decode prog_14_method_54_code 25 = .ok (.getfield 55, 3) := by decide +kernel
theorem dX12_strip_28 : decode prog_14_method_54_code 28 = .ok (.iload_n 1, 1) := by decide +kernel
theorem dX12_strip_29 : decode prog_14_method_54_code 29 = .ok (.iaload, 1) := by decide +kernel
theorem dX12_strip_30 : decode prog_14_method_54_code 30 = .ok (.ifCond .eq 12, 3) := by decide +kernel
theorem dX12_strip_33 : decode prog_14_method_54_code 33 = .ok (.aload_n 0, 1) := by decide +kernel
theorem dX12_strip_34 : decode prog_14_method_54_code 34 = .ok (.getfield 55, 3) := by decide +kernel
theorem dX12_strip_37 : decode prog_14_method_54_code 37 = .ok (.iload_n 2, 1) := by decide +kernel
theorem dX12_strip_38 : decode prog_14_method_54_code 38 = .ok (.iaload, 1) := by decide +kernel
theorem dX12_strip_39 : decode prog_14_method_54_code 39 = .ok (.ifCond .ne 6, 3) := by decide +kernel
theorem dX12_strip_42 : decode prog_14_method_54_code 42 = .ok (.bipush (-4), 2) := by decide +kernel
theorem dX12_strip_44 : decode prog_14_method_54_code 44 = .ok (.ireturn, 1) := by decide +kernel
theorem dX12_strip_45 : decode prog_14_method_54_code 45 = .ok (.aload_n 0, 1) := by decide +kernel
theorem dX12_strip_46 : decode prog_14_method_54_code 46 = .ok (.iload_n 1, 1) := by decide +kernel
theorem dX12_strip_47 : decode prog_14_method_54_code 47 = .ok (.iconst 0, 1) := by decide +kernel
theorem dX12_strip_48 : decode prog_14_method_54_code 48 = .ok (.invokevirtual 427, 3) := by decide +kernel
theorem dX12_strip_51 : decode prog_14_method_54_code 51 = .ok (.ifCond .eq 13, 3) := by decide +kernel
theorem dX12_strip_54 : decode prog_14_method_54_code 54 = .ok (.aload_n 0, 1) := by decide +kernel
theorem dX12_strip_55 : decode prog_14_method_54_code 55 = .ok (.iload_n 2, 1) := by decide +kernel
theorem dX12_strip_56 : decode prog_14_method_54_code 56 = .ok (.bipush 13, 2) := by decide +kernel
theorem dX12_strip_58 : decode prog_14_method_54_code 58 = .ok (.invokevirtual 427, 3) := by decide +kernel
theorem dX12_strip_61 : decode prog_14_method_54_code 61 = .ok (.ifCond .ne 5, 3) := by decide +kernel
theorem dX12_strip_64 : decode prog_14_method_54_code 64 = .ok (.iconst (-1), 1) := by decide +kernel
theorem dX12_strip_65 : decode prog_14_method_54_code 65 = .ok (.ireturn, 1) := by decide +kernel
theorem dX12_strip_66 : decode prog_14_method_54_code 66 = .ok (.iconst 0, 1) := by decide +kernel
theorem dX12_strip_67 : decode prog_14_method_54_code 67 = .ok (.istore_n 3, 1) := by decide +kernel
theorem dX12_strip_68 : decode prog_14_method_54_code 68 = .ok (.aload_n 0, 1) := by decide +kernel
theorem dX12_strip_69 : decode prog_14_method_54_code 69 = .ok (.iconst 1, 1) := by decide +kernel
theorem dX12_strip_70 : decode prog_14_method_54_code 70 = .ok (.sipush (-9999), 3) := by decide +kernel
theorem dX12_strip_73 : decode prog_14_method_54_code 73 = .ok (.iload_n 1, 1) := by decide +kernel
theorem dX12_strip_74 : decode prog_14_method_54_code 74 = .ok (.iload_n 2, 1) := by decide +kernel
theorem dX12_strip_75 : decode prog_14_method_54_code 75 = .ok (.invokevirtual 434, 3) := by decide +kernel
theorem dX12_strip_78 : decode prog_14_method_54_code 78 = .ok (.istore 4, 2) := by decide +kernel
theorem dX12_strip_80 : decode prog_14_method_54_code 80 = .ok (.iload 4, 2) := by decide +kernel
theorem dX12_strip_82 : decode prog_14_method_54_code 82 = .ok (.sipush 9999, 3) := by decide +kernel
theorem dX12_strip_85 : decode prog_14_method_54_code 85 = .ok (.if_icmp .ge 150, 3) := by decide +kernel
theorem dX12_strip_88 : decode prog_14_method_54_code 88 = .ok (.aload_n 0, 1) := by decide +kernel
theorem dX12_strip_89 : decode prog_14_method_54_code 89 = .ok (.iconst 1, 1) := by decide +kernel
theorem dX12_strip_90 : decode prog_14_method_54_code 90 = .ok (.iload 4, 2) := by decide +kernel
theorem dX12_strip_92 : decode prog_14_method_54_code 92 = .ok (.iload_n 1, 1) := by decide +kernel
theorem dX12_strip_93 : decode prog_14_method_54_code 93 = .ok (.iload_n 2, 1) := by decide +kernel
theorem dX12_strip_94 : decode prog_14_method_54_code 94 = .ok (.invokevirtual 434, 3) := by decide +kernel
theorem dX12_strip_97 : decode prog_14_method_54_code 97 = .ok (.iload 4, 2) := by decide +kernel
theorem dX12_strip_99 : decode prog_14_method_54_code 99 = .ok (.isub, 1) := by decide +kernel
theorem dX12_strip_100 : decode prog_14_method_54_code 100 = .ok (.istore 5, 2) := by decide +kernel
theorem dX12_strip_102 : decode prog_14_method_54_code 102 = .ok (.aload_n 0, 1) := by decide +kernel
theorem dX12_strip_103 : decode prog_14_method_54_code 103 = .ok (.iconst 0, 1) := by decide +kernel
theorem dX12_strip_104 : decode prog_14_method_54_code 104 = .ok (.sipush (-9999), 3) := by decide +kernel
theorem dX12_strip_107 : decode prog_14_method_54_code 107 = .ok (.iload_n 1, 1) := by decide +kernel
theorem dX12_strip_108 : decode prog_14_method_54_code 108 = .ok (.iload_n 2, 1) := by decide +kernel
theorem dX12_strip_109 : decode prog_14_method_54_code 109 = .ok (.invokevirtual 434, 3) := by decide +kernel
theorem dX12_strip_112 : decode prog_14_method_54_code 112 = .ok (.istore 6, 2) := by decide +kernel
theorem dX12_strip_114 : decode prog_14_method_54_code 114 = .ok (.iload 6, 2) := by decide +kernel
theorem dX12_strip_116 : decode prog_14_method_54_code 116 = .ok (.sipush 9999, 3) := by decide +kernel
theorem dX12_strip_119 : decode prog_14_method_54_code 119 = .ok (.if_icmp .ge 102, 3) := by decide +kernel
theorem dX12_strip_122 : decode prog_14_method_54_code 122 = .ok (.iload 5, 2) := by decide +kernel
theorem dX12_strip_124 : decode prog_14_method_54_code 124 = .ok (.sipush 9999, 3) := by decide +kernel
theorem dX12_strip_127 : decode prog_14_method_54_code 127 = .ok (.if_icmp .ge 94, 3) := by decide +kernel
theorem dX12_strip_130 : decode prog_14_method_54_code 130 = .ok (.aload_n 0, 1) := by decide +kernel
theorem dX12_strip_131 : decode prog_14_method_54_code 131 = .ok (.iconst 0, 1) := by decide +kernel
theorem dX12_strip_132 : decode prog_14_method_54_code 132 = .ok (.iload 6, 2) := by decide +kernel
theorem dX12_strip_134 : decode prog_14_method_54_code 134 = .ok (.iload_n 1, 1) := by decide +kernel
theorem dX12_strip_135 : decode prog_14_method_54_code 135 = .ok (.iload_n 2, 1) := by decide +kernel
theorem dX12_strip_136 : decode prog_14_method_54_code 136 = .ok (.invokevirtual 434, 3) := by decide +kernel
theorem dX12_strip_139 : decode prog_14_method_54_code 139 = .ok (.iload 6, 2) := by decide +kernel
theorem dX12_strip_141 : decode prog_14_method_54_code 141 = .ok (.isub, 1) := by decide +kernel
theorem dX12_strip_142 : decode prog_14_method_54_code 142 = .ok (.istore 7, 2) := by decide +kernel
theorem dX12_strip_144 : decode prog_14_method_54_code 144 = .ok (.iload 7, 2) := by decide +kernel
theorem dX12_strip_146 : decode prog_14_method_54_code 146 = .ok (.sipush 9999, 3) := by decide +kernel
theorem dX12_strip_149 : decode prog_14_method_54_code 149 = .ok (.if_icmp .ge 58, 3) := by decide +kernel
theorem dX12_strip_152 : decode prog_14_method_54_code 152 = .ok (.aload_n 0, 1) := by decide +kernel
theorem dX12_strip_153 : decode prog_14_method_54_code 153 = .ok (.iload_n 1, 1) := by decide +kernel
theorem dX12_strip_154 : decode prog_14_method_54_code 154 = .ok (.iconst 0, 1) := by decide +kernel
theorem dX12_strip_155 : decode prog_14_method_54_code 155 = .ok (.iconst 2, 1) := by decide +kernel
theorem dX12_strip_156 : decode prog_14_method_54_code 156 = .ok (.iload 4, 2) := by decide +kernel
theorem dX12_strip_158 : decode prog_14_method_54_code 158 = .ok (.imul, 1) := by decide +kernel
theorem dX12_strip_159 : decode prog_14_method_54_code 159 = .ok (.iload 5, 2) := by decide +kernel
theorem dX12_strip_161 : decode prog_14_method_54_code 161 = .ok (.iadd, 1) := by decide +kernel
theorem dX12_strip_162 : decode prog_14_method_54_code 162 = .ok (.iconst 2, 1) := by decide +kernel
theorem dX12_strip_163 : decode prog_14_method_54_code 163 = .ok (.iload 6, 2) := by decide +kernel
theorem dX12_strip_165 : decode prog_14_method_54_code 165 = .ok (.imul, 1) := by decide +kernel
theorem dX12_strip_166 : decode prog_14_method_54_code 166 = .ok (.iload 7, 2) := by decide +kernel
theorem dX12_strip_168 : decode prog_14_method_54_code 168 = .ok (.iadd, 1) := by decide +kernel
theorem dX12_strip_169 : decode prog_14_method_54_code 169 = .ok (.invokevirtual 438, 3) := by decide +kernel
theorem dX12_strip_172 : decode prog_14_method_54_code 172 = .ok (.ifCond .eq 35, 3) := by decide +kernel
theorem dX12_strip_175 : decode prog_14_method_54_code 175 = .ok (.aload_n 0, 1) := by decide +kernel
theorem dX12_strip_176 : decode prog_14_method_54_code 176 = .ok (.iload_n 2, 1) := by decide +kernel
theorem dX12_strip_177 : decode prog_14_method_54_code 177 = .ok (.bipush 13, 2) := by decide +kernel
theorem dX12_strip_179 : decode prog_14_method_54_code 179 = .ok (.iconst 2, 1) := by decide +kernel
theorem dX12_strip_180 : decode prog_14_method_54_code 180 = .ok (.iload 4, 2) := by decide +kernel
theorem dX12_strip_182 : decode prog_14_method_54_code 182 = .ok (.imul, 1) := by decide +kernel
theorem dX12_strip_183 : decode prog_14_method_54_code 183 = .ok (.iload 5, 2) := by decide +kernel
theorem dX12_strip_185 : decode prog_14_method_54_code 185 = .ok (.iadd, 1) := by decide +kernel
theorem dX12_strip_186 : decode prog_14_method_54_code 186 = .ok (.iconst 2, 1) := by decide +kernel
theorem dX12_strip_187 : decode prog_14_method_54_code 187 = .ok (.iload 6, 2) := by decide +kernel
theorem dX12_strip_189 : decode prog_14_method_54_code 189 = .ok (.imul, 1) := by decide +kernel
theorem dX12_strip_190 : decode prog_14_method_54_code 190 = .ok (.iload 7, 2) := by decide +kernel
theorem dX12_strip_192 : decode prog_14_method_54_code 192 = .ok (.iadd, 1) := by decide +kernel
theorem dX12_strip_193 : decode prog_14_method_54_code 193 = .ok (.invokevirtual 438, 3) := by decide +kernel
theorem dX12_strip_196 : decode prog_14_method_54_code 196 = .ok (.ifCond .eq 11, 3) := by decide +kernel
theorem dX12_strip_199 : decode prog_14_method_54_code 199 = .ok (.iload_n 3, 1) := by decide +kernel
theorem dX12_strip_200 : decode prog_14_method_54_code 200 = .ok (.iload 5, 2) := by decide +kernel
theorem dX12_strip_202 : decode prog_14_method_54_code 202 = .ok (.iload 7, 2) := by decide +kernel
theorem dX12_strip_204 : decode prog_14_method_54_code 204 = .ok (.imul, 1) := by decide +kernel
theorem dX12_strip_205 : decode prog_14_method_54_code 205 = .ok (.iadd, 1) := by decide +kernel
theorem dX12_strip_206 : decode prog_14_method_54_code 206 = .ok (.istore_n 3, 1) := by decide +kernel
theorem dX12_strip_207 : decode prog_14_method_54_code 207 = .ok (.aload_n 0, 1) := by decide +kernel
theorem dX12_strip_208 : decode prog_14_method_54_code 208 = .ok (.iconst 0, 1) := by decide +kernel
theorem dX12_strip_209 : decode prog_14_method_54_code 209 = .ok (.iload 6, 2) := by decide +kernel
theorem dX12_strip_211 : decode prog_14_method_54_code 211 = .ok (.iload_n 1, 1) := by decide +kernel
theorem dX12_strip_212 : decode prog_14_method_54_code 212 = .ok (.iload_n 2, 1) := by decide +kernel
theorem dX12_strip_213 : decode prog_14_method_54_code 213 = .ok (.invokevirtual 434, 3) := by decide +kernel
theorem dX12_strip_216 : decode prog_14_method_54_code 216 = .ok (.istore 6, 2) := by decide +kernel
theorem dX12_strip_218 : decode prog_14_method_54_code 218 = .ok (.goto (-104), 3) := by decide +kernel
theorem dX12_strip_221 : decode prog_14_method_54_code 221 = .ok (.aload_n 0, 1) := by decide +kernel
theorem dX12_strip_222 : decode prog_14_method_54_code 222 = .ok (.iconst 1, 1) := by decide +kernel
theorem dX12_strip_223 : decode prog_14_method_54_code 223 = .ok (.iload 4, 2) := by decide +kernel
theorem dX12_strip_225 : decode prog_14_method_54_code 225 = .ok (.iload_n 1, 1) := by decide +kernel
theorem dX12_strip_226 : decode prog_14_method_54_code 226 = .ok (.iload_n 2, 1) := by decide +kernel
theorem dX12_strip_227 : decode prog_14_method_54_code 227 = .ok (.invokevirtual 434, 3) := by decide +kernel
theorem dX12_strip_230 : decode prog_14_method_54_code 230 = .ok (.istore 4, 2) := by decide +kernel
theorem dX12_strip_232 : decode prog_14_method_54_code 232 = .ok (.goto (-152), 3) := by decide +kernel
theorem dX12_strip_235 : decode prog_14_method_54_code 235 = .ok (.iload_n 3, 1) := by decide +kernel
theorem dX12_strip_236 : decode prog_14_method_54_code 236 = .ok (.ireturn, 1) := by decide +kernel
