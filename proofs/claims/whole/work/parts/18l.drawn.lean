abbrev xX12_cant : bX := ("BurntHallModel", prog_14_method_83_code, 3, (Option.some Jvm.ClassFile.FieldType.int), b_rm 4 0 0, 0, "cant")
abbrev yX12_cant : MethodName := ⟨"BurntHallModel", "cant", "(II)I"⟩
theorem dX12_cant_0 : decode prog_14_method_83_code 0 = .ok (.aload_n 0, 1) := by decide +kernel
theorem dX12_cant_1 : decode prog_14_method_83_code 1 = .ok (.iload_n 1, 1) := by decide +kernel
theorem dX12_cant_2 : decode prog_14_method_83_code 2 = .ok (.invokevirtual 505, 3) := by decide +kernel
theorem dX12_cant_5 : decode prog_14_method_83_code 5 = .ok (.ifCond .eq 10, 3) := by decide +kernel
theorem dX12_cant_8 : decode prog_14_method_83_code 8 = .ok (.iload_n 2, 1) := by decide +kernel
theorem dX12_cant_9 : decode prog_14_method_83_code 9 = .ok (.invokestatic 347, 3) := by decide +kernel
theorem dX12_cant_12 : decode prog_14_method_83_code 12 = .ok (.ifCond .ne 6, 3) := by decide +kernel
theorem dX12_cant_15 : decode prog_14_method_83_code 15 = .ok (.bipush (-2), 2) := by decide +kernel
theorem dX12_cant_17 : decode prog_14_method_83_code 17 = .ok (.ireturn, 1) := by decide +kernel
theorem dX12_cant_18 : decode prog_14_method_83_code 18 = .ok (.aload_n 0, 1) := by decide +kernel
theorem dX12_cant_19 : decode prog_14_method_83_code 19 = .ok (.iload_n 2, 1) := by decide +kernel
theorem dX12_cant_20 : decode prog_14_method_83_code 20 = .ok (.invokevirtual 367, 3) := by decide +kernel
theorem dX12_cant_23 : decode prog_14_method_83_code 23 = .ok (.aload_n 0, 1) := by decide +kernel
theorem dX12_cant_24 : decode prog_14_method_83_code 24 = .ok (.iload_n 1, 1) := by decide +kernel
theorem dX12_cant_25 : decode prog_14_method_83_code 25 = .ok (.iload_n 2, 1) := by decide +kernel
theorem dX12_cant_26 : decode prog_14_method_83_code 26 = .ok (.invokevirtual 520, 3) := by decide +kernel
theorem dX12_cant_29 : decode prog_14_method_83_code 29 = .ok (.ireturn, 1) := by decide +kernel
noncomputable def F_X12_cant (v1 : Int) (v2 : Int) (M : bM) : Option (Int × bM) :=
  b_bind (F_X12_isPaper v1 M) (fun x1 => if x1 = 0 then (some ((-2), M)) else (b_bind (F_X12_isDay v2 M) (fun x3 => if x3 = 0 then (some ((-2), M)) else (b_bind (F_X12_makeOnes v2 M) (fun M5 => b_bind (F_X12_cantOf v1 v2 M5) (fun x6 => some (x6, M5)))))))
theorem t_X12_cant {l : Launch} {E : bE} {Q : (Int × bM) → Prop} {v1 : Int} {v2 : Int} {M : bM} (h : b_wp (F_X12_cant v1 v2 M) (Q)) : V l E xX12_cant (0, 0) 0 [(0, bR 11), (1, bI v1), (2, bI v2)] [] M (b_pI Q) := by
  unfold F_X12_cant at h
  refine v_aload_n (f := 0) 0 rfl dX12_cant_0 ?_
  refine v_iload_n (f := 1) 1 rfl dX12_cant_1 ?_
  refine v_cVIp (nA := 1) (As := [bI _]) (ix := 505) (cf_X12_isPaper (b_wp_b h)) rfl kd_11 rfl rfl wc_X12_isPaper wm_12_505 wi_X12_isPaper ws_X12_isPaper wn_12 ⟨by decide, by decide, by decide⟩ rfl ⟨by decide, by decide⟩ ⟨by decide, by decide⟩ (Nat.le_of_ble_eq_true rfl) dX12_cant_2 (fun x1 h => ?_)
  refine v_if_eq (tgt := 15) dX12_cant_5 (by decide) (fun c2 => ?_) (fun c2 => ?_)
  · replace h := b_wp_t c2 h
    refine v_bipush ⟨by decide, by decide⟩ (by decide) dX12_cant_15 ?_
    refine v_ireturn rfl dX12_cant_17 ⟨by decide, by decide⟩ ?_
    exact ⟨_, rfl, h⟩
  · replace h := b_wp_f c2 h
    refine v_iload_n (f := 2) 2 rfl dX12_cant_8 ?_
    refine v_cSIp (nA := 1) (As := [bI _]) (ix := 347) (cf_X12_isDay (b_wp_b h)) rfl wc_X12_isDay wm_12_347 wi_X12_isDay wn_12 ⟨by decide, by decide, by decide⟩ rfl ⟨by decide, by decide⟩ ⟨by decide, by decide⟩ (Nat.le_of_ble_eq_true rfl) dX12_cant_9 (fun x3 h => ?_)
    refine v_if_ne (tgt := 18) dX12_cant_12 (by decide) (fun c4 => ?_) (fun c4 => ?_)
    · replace h := b_wp_f c4 h
      refine v_aload_n (f := 0) 0 rfl dX12_cant_18 ?_
      refine v_iload_n (f := 2) 2 rfl dX12_cant_19 ?_
      refine v_cVV (nA := 1) (As := [bI _]) (ix := 367) (cf_X12_makeOnes (b_wp_b h)) rfl kd_11 rfl rfl wc_X12_makeOnes wm_12_367 wi_X12_makeOnes ws_X12_makeOnes wn_12 ⟨by decide, by decide, by decide⟩ rfl ⟨by decide, by decide⟩ ⟨by decide, by decide⟩ (Nat.le_of_ble_eq_true rfl) dX12_cant_20 (fun M5 h => ?_)
      refine v_aload_n (f := 0) 0 rfl dX12_cant_23 ?_
      refine v_iload_n (f := 1) 1 rfl dX12_cant_24 ?_
      refine v_iload_n (f := 2) 2 rfl dX12_cant_25 ?_
      refine v_cVIp (nA := 2) (As := [bI _, bI _]) (ix := 520) (cf_X12_cantOf (b_wp_b h)) rfl kd_11 rfl rfl wc_X12_cantOf wm_12_520 wi_X12_cantOf ws_X12_cantOf wn_12 ⟨by decide, by decide, by decide⟩ rfl ⟨by decide, by decide⟩ ⟨by decide, by decide⟩ (Nat.le_of_ble_eq_true rfl) dX12_cant_26 (fun x6 h => ?_)
      refine v_ireturn rfl dX12_cant_29 ⟨by decide, by decide⟩ ?_
      exact ⟨_, rfl, h⟩
    · replace h := b_wp_t c4 h
      refine v_bipush ⟨by decide, by decide⟩ (by decide) dX12_cant_15 ?_
      refine v_ireturn rfl dX12_cant_17 ⟨by decide, by decide⟩ ?_
      exact ⟨_, rfl, h⟩
theorem cf_X12_cant {l : Launch} {E : bE} {M : bM} {v1 : Int} {v2 : Int} {Q : (Int × bM) → Prop} (h : b_wp (F_X12_cant v1 v2 M) Q) : b_C l E xX12_cant yX12_cant [bR 11, bI v1, bI v2] M (b_pI Q) := b_met (by decide) ⟨rfl, rfl⟩ (Nat.le_of_ble_eq_true rfl) (fun _ _ => t_X12_cant h)
abbrev xX12_classOf : bX := ("BurntHallModel", prog_14_method_84_code, 3, (Option.some Jvm.ClassFile.FieldType.int), b_rm 1 0 0, 0, "classOf")
abbrev yX12_classOf : MethodName := ⟨"BurntHallModel", "classOf", "(II)I"⟩
theorem dX12_classOf_0 : decode prog_14_method_84_code 0 = .ok (.iload_n 1, 1) := by decide +kernel
theorem dX12_classOf_1 : decode prog_14_method_84_code 1 = .ok (.iconst 2, 1) := by decide +kernel
theorem dX12_classOf_2 : decode prog_14_method_84_code 2 = .ok (.if_icmp .ne 7, 3) := by decide +kernel
theorem dX12_classOf_5 : decode prog_14_method_84_code 5 = .ok (.iload_n 2, 1) := by decide +kernel
theorem dX12_classOf_6 : decode prog_14_method_84_code 6 = .ok (.goto 9, 3) := by decide +kernel
theorem dX12_classOf_9 : decode prog_14_method_84_code 9 = .ok (.aload_n 0, 1) := by decide +kernel
theorem dX12_classOf_10 : decode prog_14_method_84_code 10 = .ok (.getfield 33, 3) := by decide +kernel
theorem dX12_classOf_13 : decode prog_14_method_84_code 13 = .ok (.iload_n 2, 1) := by decide +kernel
theorem dX12_classOf_14 : decode prog_14_method_84_code 14 = .ok (.iaload, 1) := by decide +kernel
theorem dX12_classOf_15 : decode prog_14_method_84_code 15 = .ok (.ireturn, 1) := by decide +kernel
noncomputable def F_X12_classOf (v1 : Int) (v2 : Int) (M : bM) : Option (Int) :=
  if v1 = 2 then (some v2) else (b_g (0 ≤ v2 ∧ v2 < 80) (some (M 168 v2)))
theorem t_X12_classOf {l : Launch} {E : bE} {Q : Int → Prop} {v1 : Int} {v2 : Int} {M : bM} (h : b_wp (F_X12_classOf v1 v2 M) (Q)) : V l E xX12_classOf (0, 0) 0 [(0, bR 11), (1, bI v1), (2, bI v2)] [] M (b_pIp M Q) := by
  unfold F_X12_classOf at h
  refine v_iload_n (f := 1) 1 rfl dX12_classOf_0 ?_
  refine v_iconst ⟨by decide, by decide⟩ dX12_classOf_1 ?_
  refine v_icmp_ne (tgt := 9) dX12_classOf_2 (by decide) (fun c1 => ?_) (fun c1 => ?_)
  · replace h := b_wp_f c1 h
    obtain ⟨g2, h⟩ := b_wp_g h
    refine v_aload_n (f := 0) 0 rfl dX12_classOf_9 ?_
    refine v_getR (kf := 19) (kz := 19) rfl kd_11 rfl ⟨by decide, by decide⟩ rfl wf_12_33 dX12_classOf_10 ?_
    refine v_iload_n (f := 2) 2 rfl dX12_classOf_13 ?_
    refine v_iaload kd_168 g2 (by decide) dX12_classOf_14 ?_
    refine v_ireturn rfl dX12_classOf_15 ⟨by decide, by decide⟩ ?_
    exact ⟨_, rfl, rfl, h⟩
  · replace h := b_wp_t c1 h
    refine v_iload_n (f := 2) 2 rfl dX12_classOf_5 ?_
    refine v_goto (tgt := 15) dX12_classOf_6 (by decide) ?_
    refine v_ireturn rfl dX12_classOf_15 ⟨by decide, by decide⟩ ?_
    exact ⟨_, rfl, rfl, h⟩
theorem cf_X12_classOf {l : Launch} {E : bE} {M : bM} {v1 : Int} {v2 : Int} {Q : Int → Prop} (h : b_wp (F_X12_classOf v1 v2 M) Q) : b_C l E xX12_classOf yX12_classOf [bR 11, bI v1, bI v2] M (b_pIp M Q) := b_met (by decide) ⟨rfl, rfl⟩ (Nat.le_of_ble_eq_true rfl) (fun _ _ => t_X12_classOf h)
abbrev xX12_sumFor : bX := ("BurntHallModel", prog_14_method_85_code, 10, (Option.some Jvm.ClassFile.FieldType.int), b_rm 2 0 0, 0, "sumFor")
abbrev yX12_sumFor : MethodName := ⟨"BurntHallModel", "sumFor", "(IIII)I"⟩
theorem dX12_sumFor_0 : decode prog_14_method_85_code 0 = .ok (.iconst 0, 1) := by decide +kernel
theorem dX12_sumFor_1 : decode prog_14_method_85_code 1 = .ok (.istore 5, 2) := by decide +kernel
theorem dX12_sumFor_3 : decode prog_14_method_85_code 3 = .ok (.iconst 0, 1) := by decide +kernel
theorem dX12_sumFor_4 : decode prog_14_method_85_code 4 = .ok (.istore 6, 2) := by decide +kernel
theorem dX12_sumFor_6 : decode prog_14_method_85_code 6 = .ok (.iconst 0, 1) := by decide +kernel
theorem dX12_sumFor_7 : decode prog_14_method_85_code 7 = .ok (.istore 7, 2) := by decide +kernel
theorem dX12_sumFor_9 : decode prog_14_method_85_code 9 = .ok (.iload 7, 2) := by decide +kernel
theorem dX12_sumFor_11 : decode prog_14_method_85_code 11 = .ok (.aload_n 0, 1) := by decide +kernel
theorem dX12_sumFor_12 : decode prog_14_method_85_code 12 = .ok (.getfield 502, 3) := by decide +kernel
theorem dX12_sumFor_15 : decode prog_14_method_85_code 15 = .ok (.if_icmp .ge 156, 3) := by decide +kernel
theorem dX12_sumFor_18 : decode prog_14_method_85_code 18 = .ok (.aload_n 0, 1) := by decide +kernel
theorem dX12_sumFor_19 : decode prog_14_method_85_code 19 = .ok (.getfield 121, 3) := by decide +kernel
theorem dX12_sumFor_22 : decode prog_14_method_85_code 22 = .ok (.iconst 3, 1) := by decide +kernel
theorem dX12_sumFor_23 : decode prog_14_method_85_code 23 = .ok (.iload 7, 2) := by decide +kernel
theorem dX12_sumFor_25 : decode prog_14_method_85_code 25 = .ok (.imul, 1) := by decide +kernel
theorem dX12_sumFor_26 : decode prog_14_method_85_code 26 = .ok (.iload_n 2, 1) := by decide +kernel
theorem dX12_sumFor_27 : decode prog_14_method_85_code 27 = .ok (.iadd, 1) := by decide +kernel
theorem dX12_sumFor_28 : decode prog_14_method_85_code 28 = .ok (.iaload, 1) := by decide +kernel
theorem dX12_sumFor_29 : decode prog_14_method_85_code 29 = .ok (.istore 8, 2) := by decide +kernel
theorem dX12_sumFor_31 : decode prog_14_method_85_code 31 = .ok (.aload_n 0, 1) := by decide +kernel
theorem dX12_sumFor_32 : decode prog_14_method_85_code 32 = .ok (.getfield 176, 3) := by decide +kernel
theorem dX12_sumFor_35 : decode prog_14_method_85_code 35 = .ok (.iload 7, 2) := by decide +kernel
theorem dX12_sumFor_37 : decode prog_14_method_85_code 37 = .ok (.baload, 1) := by decide +kernel
theorem dX12_sumFor_38 : decode prog_14_method_85_code 38 = .ok (.ifCond .eq 127, 3) := by decide +kernel
theorem dX12_sumFor_41 : decode prog_14_method_85_code 41 = .ok (.aload_n 0, 1) := by decide +kernel
theorem dX12_sumFor_42 : decode prog_14_method_85_code 42 = .ok (.getfield 118, 3) := by decide +kernel
theorem dX12_sumFor_45 : decode prog_14_method_85_code 45 = .ok (.iload 7, 2) := by decide +kernel
theorem dX12_sumFor_47 : decode prog_14_method_85_code 47 = .ok (.iaload, 1) := by decide +kernel
theorem dX12_sumFor_48 : decode prog_14_method_85_code 48 = .ok (.iload_n 1, 1) := by decide +kernel
theorem dX12_sumFor_49 : decode prog_14_method_85_code 49 = .ok (.if_icmp .ne 116, 3) := by decide +kernel
theorem dX12_sumFor_52 : decode prog_14_method_85_code 52 = .ok (.iload 8, 2) := by decide +kernel
theorem dX12_sumFor_54 : decode prog_14_method_85_code 54 = .ok (.iconst (-1), 1) := by decide +kernel
theorem dX12_sumFor_55 : decode prog_14_method_85_code 55 = .ok (.if_icmp .eq 110, 3) := by decide +kernel
theorem dX12_sumFor_58 : decode prog_14_method_85_code 58 = .ok (.aload_n 0, 1) := by decide +kernel
theorem dX12_sumFor_59 : decode prog_14_method_85_code 59 = .ok (.iload_n 2, 1) := by decide +kernel
theorem dX12_sumFor_60 : decode prog_14_method_85_code 60 = .ok (.iload 8, 2) := by decide +kernel
theorem dX12_sumFor_62 : decode prog_14_method_85_code 62 = .ok (.invokevirtual 523, 3) := by decide +kernel
theorem dX12_sumFor_65 : decode prog_14_method_85_code 65 = .ok (.iload_n 3, 1) := by decide +kernel
theorem dX12_sumFor_66 : decode prog_14_method_85_code 66 = .ok (.if_icmp .eq 6, 3) := by decide +kernel
theorem dX12_sumFor_69 : decode prog_14_method_85_code 69 = .ok (.goto 96, 3) := by decide +kernel
theorem dX12_sumFor_72 : decode prog_14_method_85_code 72 = .ok (.aload_n 0, 1) := by decide +kernel
theorem dX12_sumFor_73 : decode prog_14_method_85_code 73 = .ok (.getfield 115, 3) := by decide +kernel
theorem dX12_sumFor_76 : decode prog_14_method_85_code 76 = .ok (.iload 7, 2) := by decide +kernel
theorem dX12_sumFor_78 : decode prog_14_method_85_code 78 = .ok (.iaload, 1) := by decide +kernel
theorem dX12_sumFor_79 : decode prog_14_method_85_code 79 = .ok (.iconst 3, 1) := by decide +kernel
theorem dX12_sumFor_80 : decode prog_14_method_85_code 80 = .ok (.if_icmp .eq 18, 3) := by decide +kernel
theorem dX12_sumFor_83 : decode prog_14_method_85_code 83 = .ok (.iload 5, 2) := by decide +kernel
theorem dX12_sumFor_85 : decode prog_14_method_85_code 85 = .ok (.aload_n 0, 1) := by decide +kernel
theorem dX12_sumFor_86 : decode prog_14_method_85_code 86 = .ok (.getfield 179, 3) := by decide +kernel
theorem dX12_sumFor_89 : decode prog_14_method_85_code 89 = .ok (.iload 7, 2) := by decide +kernel
theorem dX12_sumFor_91 : decode prog_14_method_85_code 91 = .ok (.iaload, 1) := by decide +kernel
theorem dX12_sumFor_92 : decode prog_14_method_85_code 92 = .ok (.iadd, 1) := by decide +kernel
theorem dX12_sumFor_93 : decode prog_14_method_85_code 93 = .ok (.istore 5, 2) := by decide +kernel
theorem dX12_sumFor_95 : decode prog_14_method_85_code 95 = .ok (.goto 70, 3) := by decide +kernel
theorem dX12_sumFor_98 : decode prog_14_method_85_code 98 = .ok (.iload 6, 2) := by decide +kernel
theorem dX12_sumFor_100 : decode prog_14_method_85_code 100 = .ok (.istore 9, 2) := by decide +kernel
theorem dX12_sumFor_102 : decode prog_14_method_85_code 102 = .ok (.iload 9, 2) := by decide +kernel
theorem dX12_sumFor_104 : decode prog_14_method_85_code 104 = .ok (.ifCond .le 44, 3) := by decide +kernel
theorem dX12_sumFor_107 : decode prog_14_method_85_code 107 = .ok (.aload_n 0, 1) := by decide +kernel
theorem dX12_sumFor_108 : decode prog_14_method_85_code 108 = .ok (.getfield 182, 3) := by decide +kernel
theorem dX12_sumFor_111 : decode prog_14_method_85_code 111 = .ok (.iload 9, 2) := by decide +kernel
theorem dX12_sumFor_113 : decode prog_14_method_85_code 113 = .ok (.iconst 1, 1) := by decide +kernel
theorem dX12_sumFor_114 : decode prog_14_method_85_code 114 = .ok (.isub, 1) := by decide +kernel
theorem dX12_sumFor_115 : decode prog_14_method_85_code 115 = .ok (.iaload, 1) := by decide +kernel
theorem dX12_sumFor_116 : decode prog_14_method_85_code 116 = .ok (.aload_n 0, 1) := by decide +kernel
theorem dX12_sumFor_117 : decode prog_14_method_85_code 117 = .ok (.getfield 179, 3) := by decide +kernel
theorem dX12_sumFor_120 : decode prog_14_method_85_code 120 = .ok (.iload 7, 2) := by decide +kernel
theorem dX12_sumFor_122 : decode prog_14_method_85_code 122 = .ok (.iaload, 1) := by decide +kernel
theorem dX12_sumFor_123 : decode prog_14_method_85_code 123 = .ok (.if_icmp .ge 25, 3) := by decide +kernel
theorem dX12_sumFor_126 : decode prog_14_method_85_code 126 = .ok (.aload_n 0, 1) := by decide +kernel
theorem dX12_sumFor_127 : decode prog_14_method_85_code 127 = .ok (.getfield 182, 3) := by decide +kernel
theorem dX12_sumFor_130 : decode prog_14_method_85_code 130 = .ok (.iload 9, 2) := by decide +kernel
theorem dX12_sumFor_132 : decode prog_14_method_85_code 132 = .ok (.aload_n 0, 1) := by decide +kernel
theorem dX12_sumFor_133 : decode prog_14_method_85_code 133 = .ok (.getfield 182, 3) := by decide +kernel
theorem dX12_sumFor_136 : decode prog_14_method_85_code 136 = .ok (.iload 9, 2) := by decide +kernel
theorem dX12_sumFor_138 : decode prog_14_method_85_code 138 = .ok (.iconst 1, 1) := by decide +kernel
theorem dX12_sumFor_139 : decode prog_14_method_85_code 139 = .ok (.isub, 1) := by decide +kernel
theorem dX12_sumFor_140 : decode prog_14_method_85_code 140 = .ok (.iaload, 1) := by decide +kernel
theorem dX12_sumFor_141 : decode prog_14_method_85_code 141 = .ok (.iastore, 1) := by decide +kernel
theorem dX12_sumFor_142 : decode prog_14_method_85_code 142 = .ok (.iinc 9 (-1), 3) := by decide +kernel
theorem dX12_sumFor_145 : decode prog_14_method_85_code 145 = .ok (.goto (-43), 3) := by decide +kernel
theorem dX12_sumFor_148 : decode prog_14_method_85_code 148 = .ok (.aload_n 0, 1) := by decide +kernel
theorem dX12_sumFor_149 : decode prog_14_method_85_code 149 = .ok (.getfield 182, 3) := by decide +kernel
theorem dX12_sumFor_152 : decode prog_14_method_85_code 152 = .ok (.iload 9, 2) := by decide +kernel
theorem dX12_sumFor_154 : decode prog_14_method_85_code 154 = .ok (.aload_n 0, 1) := by decide +kernel
theorem dX12_sumFor_155 : decode prog_14_method_85_code 155 = .ok (.getfield 179, 3) := by decide +kernel
theorem dX12_sumFor_158 : decode prog_14_method_85_code 158 = .ok (.iload 7, 2) := by decide +kernel
theorem dX12_sumFor_160 : decode prog_14_method_85_code 160 = .ok (.iaload, 1) := by decide +kernel
theorem dX12_sumFor_161 : decode prog_14_method_85_code 161 = .ok (.iastore, 1) := by decide +kernel
theorem dX12_sumFor_162 : decode prog_14_method_85_code 162 = .ok (.iinc 6 1, 3) := by decide +kernel
theorem dX12_sumFor_165 : decode prog_14_method_85_code 165 = .ok (.iinc 7 1, 3) := by decide +kernel
theorem dX12_sumFor_168 : decode prog_14_method_85_code 168 = .ok (.goto (-159), 3) := by decide +kernel
theorem dX12_sumFor_171 : decode prog_14_method_85_code 171 = .ok (.iconst 0, 1) := by decide +kernel
theorem dX12_sumFor_172 : decode prog_14_method_85_code 172 = .ok (.istore 7, 2) := by decide +kernel
theorem dX12_sumFor_174 : decode prog_14_method_85_code 174 = .ok (.iload 7, 2) := by decide +kernel
theorem dX12_sumFor_176 : decode prog_14_method_85_code 176 = .ok (.iload 6, 2) := by decide +kernel
theorem dX12_sumFor_178 : decode prog_14_method_85_code 178 = .ok (.if_icmp .ge 28, 3) := by decide +kernel
theorem dX12_sumFor_181 : decode prog_14_method_85_code 181 = .ok (.iload 7, 2) := by decide +kernel
theorem dX12_sumFor_183 : decode prog_14_method_85_code 183 = .ok (.iload 4, 2) := by decide +kernel
theorem dX12_sumFor_185 : decode prog_14_method_85_code 185 = .ok (.if_icmp .ge 21, 3) := by decide +kernel
theorem dX12_sumFor_188 : decode prog_14_method_85_code 188 = .ok (.iload 5, 2) := by decide +kernel
theorem dX12_sumFor_190 : decode prog_14_method_85_code 190 = .ok (.aload_n 0, 1) := by decide +kernel
theorem dX12_sumFor_191 : decode prog_14_method_85_code 191 = .ok (.getfield 182, 3) := by decide +kernel
theorem dX12_sumFor_194 : decode prog_14_method_85_code 194 = .ok (.iload 7, 2) := by decide +kernel
theorem dX12_sumFor_196 : decode prog_14_method_85_code 196 = .ok (.iaload, 1) := by decide +kernel
theorem dX12_sumFor_197 : decode prog_14_method_85_code 197 = .ok (.iadd, 1) := by decide +kernel
theorem dX12_sumFor_198 : decode prog_14_method_85_code 198 = .ok (.istore 5, 2) := by decide +kernel
theorem dX12_sumFor_200 : decode prog_14_method_85_code 200 = .ok (.iinc 7 1, 3) := by decide +kernel
theorem dX12_sumFor_203 : decode prog_14_method_85_code 203 = .ok (.goto (-29), 3) := by decide +kernel
theorem dX12_sumFor_206 : decode prog_14_method_85_code 206 = .ok (.iload 5, 2) := by decide +kernel
theorem dX12_sumFor_208 : decode prog_14_method_85_code 208 = .ok (.ireturn, 1) := by decide +kernel
abbrev A_X12_sumFor_9 (l : Launch) (E : bE) (Q : (Int × bM) → Prop) (v1 : Int) (v2 : Int) (v3 : Int) (v4 : Int) : (Int × Int × Int × bM) → Prop := (fun t : Int × Int × Int × bM => V l E xX12_sumFor (0, 0) 9 [(0, bR 11), (1, bI v1), (2, bI v2), (3, bI v3), (4, bI v4), (5, bI (t.1)), (6, bI (t.2.1)), (7, bI (t.2.2.1))] [] t.2.2.2 (b_pI Q))
abbrev X_X12_sumFor_9 (l : Launch) (E : bE) (Q : (Int × bM) → Prop) (v1 : Int) (v2 : Int) (v3 : Int) (v4 : Int) : (Int × Int × bM) → Prop := (fun t : Int × Int × bM => V l E xX12_sumFor (0, 0) 171 [(0, bR 11), (4, bI v4), (5, bI (t.1)), (6, bI (t.2.1))] [] t.2.2 (b_pI Q))
abbrev A_X12_sumFor_102 (l : Launch) (E : bE) (Q : (Int × bM) → Prop) (v1 : Int) (v2 : Int) (v3 : Int) (v4 : Int) (v5 : Int) (v6 : Int) (v7 : Int) : (Int × bM) → Prop := (fun t : Int × bM => V l E xX12_sumFor (0, 0) 102 [(0, bR 11), (1, bI v1), (2, bI v2), (3, bI v3), (4, bI v4), (5, bI v5), (6, bI v6), (7, bI v7), (9, bI (t.1))] [] t.2 (b_pI Q))
abbrev X_X12_sumFor_102 (l : Launch) (E : bE) (Q : (Int × bM) → Prop) (v1 : Int) (v2 : Int) (v3 : Int) (v4 : Int) (v5 : Int) (v6 : Int) (v7 : Int) : (Int × bM) → Prop := (fun t : Int × bM => V l E xX12_sumFor (0, 0) 148 [(0, bR 11), (1, bI v1), (2, bI v2), (3, bI v3), (4, bI v4), (5, bI v5), (6, bI v6), (7, bI v7), (9, bI (t.1))] [] t.2 (b_pI Q))
noncomputable def F_X12_sumFor_s102 (v1 : Int) (v2 : Int) (v3 : Int) (v4 : Int) (v5 : Int) (v6 : Int) (v7 : Int) (v9 : Int) (M : bM) : Option ((Int × bM) ⊕ (Int × bM)) :=
  if v9 ≤ 0 then (some (.inr (v9, M))) else (b_g ((b_i32 (v9 - 1)) ∧ (0 ≤ (v9 - 1) ∧ (v9 - 1) < 120) ∧ (0 ≤ v7 ∧ v7 < 120)) (if (M 215 v7) ≤ (M 216 (v9 - 1)) then (some (.inr (v9, M))) else (b_g ((b_i32 (v9 - 1)) ∧ (0 ≤ (v9 - 1) ∧ (v9 - 1) < 120) ∧ (0 ≤ v9 ∧ v9 < 120)) (b_let (b_up M 216 v9 (M 216 (v9 - 1))) (fun M26 => b_g (b_i32 (v9 + (-1))) (some (.inl ((v9 + (-1)), M26))))))))
theorem t_X12_sumFor_s102 {l : Launch} {E : bE} {Q : (Int × bM) → Prop} {v1 : Int} {v2 : Int} {v3 : Int} {v4 : Int} {v5 : Int} {v6 : Int} {v7 : Int} {v9 : Int} {M : bM} (h : b_wp (F_X12_sumFor_s102 v1 v2 v3 v4 v5 v6 v7 v9 M) (Sum.elim (A_X12_sumFor_102 l E Q v1 v2 v3 v4 v5 v6 v7) (X_X12_sumFor_102 l E Q v1 v2 v3 v4 v5 v6 v7))) : V l E xX12_sumFor (0, 0) 102 [(0, bR 11), (1, bI v1), (2, bI v2), (3, bI v3), (4, bI v4), (5, bI v5), (6, bI v6), (7, bI v7), (9, bI v9)] [] M (b_pI Q) := by
  unfold F_X12_sumFor_s102 at h
  refine v_iload (i := 9) 8 rfl dX12_sumFor_102 ?_
  refine v_if_le (tgt := 148) dX12_sumFor_104 (by decide) (fun c18 => ?_) (fun c18 => ?_)
  · replace h := b_wp_t c18 h
    exact h
  · replace h := b_wp_f c18 h
    obtain ⟨⟨g19, g20, g21⟩, h⟩ := b_wp_g h
    refine v_aload_n (f := 0) 0 rfl dX12_sumFor_107 ?_
    refine v_getR (kf := 77) (kz := 77) rfl kd_11 rfl ⟨by decide, by decide⟩ rfl wf_12_182 dX12_sumFor_108 ?_
    refine v_iload (i := 9) 8 rfl dX12_sumFor_111 ?_
    refine v_iconst ⟨by decide, by decide⟩ dX12_sumFor_113 ?_
    refine v_isubN g19 dX12_sumFor_114 ?_
    refine v_iaload kd_216 g20 (by decide) dX12_sumFor_115 ?_
    refine v_aload_n (f := 0) 0 rfl dX12_sumFor_116 ?_
    refine v_getR (kf := 76) (kz := 76) rfl kd_11 rfl ⟨by decide, by decide⟩ rfl wf_12_179 dX12_sumFor_117 ?_
    refine v_iload (i := 7) 7 rfl dX12_sumFor_120 ?_
    refine v_iaload kd_215 g21 (by decide) dX12_sumFor_122 ?_
    refine v_icmp_ge (tgt := 148) dX12_sumFor_123 (by decide) (fun c22 => ?_) (fun c22 => ?_)
    · replace h := b_wp_t c22 h
      exact h
    · replace h := b_wp_f c22 h
      obtain ⟨⟨g23, g24, g25⟩, h⟩ := b_wp_g h
      refine v_aload_n (f := 0) 0 rfl dX12_sumFor_126 ?_
      refine v_getR (kf := 77) (kz := 77) rfl kd_11 rfl ⟨by decide, by decide⟩ rfl wf_12_182 dX12_sumFor_127 ?_
      refine v_iload (i := 9) 8 rfl dX12_sumFor_130 ?_
      refine v_aload_n (f := 0) 0 rfl dX12_sumFor_132 ?_
      refine v_getR (kf := 77) (kz := 77) rfl kd_11 rfl ⟨by decide, by decide⟩ rfl wf_12_182 dX12_sumFor_133 ?_
      refine v_iload (i := 9) 8 rfl dX12_sumFor_136 ?_
      refine v_iconst ⟨by decide, by decide⟩ dX12_sumFor_138 ?_
      refine v_isubN g23 dX12_sumFor_139 ?_
      refine v_iaload kd_216 g24 (by decide) dX12_sumFor_140 ?_
      refine v_iastore kd_216 g25 (by decide) dX12_sumFor_141 ?_
      replace h := b_wp_l h
      obtain ⟨g27, h⟩ := b_wp_g h
      refine v_iincN (ls' := [(9, bI _), (0, bR _), (1, bI _), (2, bI _), (3, bI _), (4, bI _), (5, bI _), (6, bI _), (7, bI _)]) 8 rfl (by decide) g27 dX12_sumFor_142 rfl ?_
      refine v_goto (tgt := 102) dX12_sumFor_145 (by decide) ?_
      refine v_sub (ls2 := [(0, bR _), (1, bI _), (2, bI _), (3, bI _), (4, bI _), (5, bI _), (6, bI _), (7, bI _), (9, bI _)]) [1, 2, 3, 4, 5, 6, 7, 8, 0] rfl ?_
      exact h
theorem l_X12_sumFor_102 {l : Launch} {E : bE} {Q : (Int × bM) → Prop} {v1 : Int} {v2 : Int} {v3 : Int} {v4 : Int} {v5 : Int} {v6 : Int} {v7 : Int} {s : Int × bM} (h : b_wp (b_loop (fun t => F_X12_sumFor_s102 v1 v2 v3 v4 v5 v6 v7 t.1 t.2) s) (X_X12_sumFor_102 l E Q v1 v2 v3 v4 v5 v6 v7)) : A_X12_sumFor_102 l E Q v1 v2 v3 v4 v5 v6 v7 s := b_loop_wp (fun t h => t_X12_sumFor_s102 h) s h
noncomputable def F_X12_sumFor_b148 (v1 : Int) (v2 : Int) (v3 : Int) (v4 : Int) (v5 : Int) (v6 : Int) (v7 : Int) (v9 : Int) (M : bM) : Option ((Int × Int × Int × bM) ⊕ (Int × Int × bM)) :=
  b_g ((0 ≤ v7 ∧ v7 < 120) ∧ (0 ≤ v9 ∧ v9 < 120)) (b_let (b_up M 216 v9 (M 215 v7)) (fun M30 => b_g ((b_i32 (v6 + 1)) ∧ (b_i32 (v7 + 1))) (some (.inl (v5, (v6 + 1), (v7 + 1), M30)))))
theorem t_X12_sumFor_b148 {l : Launch} {E : bE} {Q : (Int × bM) → Prop} {v1 : Int} {v2 : Int} {v3 : Int} {v4 : Int} {v5 : Int} {v6 : Int} {v7 : Int} {v9 : Int} {M : bM} (h : b_wp (F_X12_sumFor_b148 v1 v2 v3 v4 v5 v6 v7 v9 M) (Sum.elim (A_X12_sumFor_9 l E Q v1 v2 v3 v4) (X_X12_sumFor_9 l E Q v1 v2 v3 v4))) : V l E xX12_sumFor (0, 0) 148 [(0, bR 11), (1, bI v1), (2, bI v2), (3, bI v3), (4, bI v4), (5, bI v5), (6, bI v6), (7, bI v7), (9, bI v9)] [] M (b_pI Q) := by
  unfold F_X12_sumFor_b148 at h
  obtain ⟨⟨g28, g29⟩, h⟩ := b_wp_g h
  refine v_aload_n (f := 0) 0 rfl dX12_sumFor_148 ?_
  refine v_getR (kf := 77) (kz := 77) rfl kd_11 rfl ⟨by decide, by decide⟩ rfl wf_12_182 dX12_sumFor_149 ?_
  refine v_iload (i := 9) 8 rfl dX12_sumFor_152 ?_
  refine v_aload_n (f := 0) 0 rfl dX12_sumFor_154 ?_
  refine v_getR (kf := 76) (kz := 76) rfl kd_11 rfl ⟨by decide, by decide⟩ rfl wf_12_179 dX12_sumFor_155 ?_
  refine v_iload (i := 7) 7 rfl dX12_sumFor_158 ?_
  refine v_iaload kd_215 g28 (by decide) dX12_sumFor_160 ?_
  refine v_iastore kd_216 g29 (by decide) dX12_sumFor_161 ?_
  replace h := b_wp_l h
  obtain ⟨⟨g31, g32⟩, h⟩ := b_wp_g h
  refine v_iincN (ls' := [(6, bI _), (0, bR _), (1, bI _), (2, bI _), (3, bI _), (4, bI _), (5, bI _), (7, bI _), (9, bI _)]) 6 rfl (by decide) g31 dX12_sumFor_162 rfl ?_
  refine v_iincN (ls' := [(7, bI _), (6, bI _), (0, bR _), (1, bI _), (2, bI _), (3, bI _), (4, bI _), (5, bI _), (9, bI _)]) 7 rfl (by decide) g32 dX12_sumFor_165 rfl ?_
  refine v_goto (tgt := 9) dX12_sumFor_168 (by decide) ?_
  refine v_sub (ls2 := [(0, bR _), (1, bI _), (2, bI _), (3, bI _), (4, bI _), (5, bI _), (6, bI _), (7, bI _)]) [2, 3, 4, 5, 6, 7, 1, 0] rfl ?_
  exact h
noncomputable def F_X12_sumFor_s9 (v1 : Int) (v2 : Int) (v3 : Int) (v4 : Int) (v5 : Int) (v6 : Int) (v7 : Int) (M : bM) : Option ((Int × Int × Int × bM) ⊕ (Int × Int × bM)) :=
  if (M 11 53) ≤ v7 then (some (.inr (v5, v6, M))) else (b_g ((b_i32 (3 * v7)) ∧ (b_i32 ((3 * v7) + v2)) ∧ (0 ≤ ((3 * v7) + v2) ∧ ((3 * v7) + v2) < 360)) (b_let ((M 196 ((3 * v7) + v2))) (fun y5 => b_g (0 ≤ v7 ∧ v7 < 120) (if (M 214 v7) = 0 then (b_g (b_i32 (v7 + 1)) (some (.inl (v5, v6, (v7 + 1), M)))) else (b_g (0 ≤ v7 ∧ v7 < 120) (if (M 195 v7) = v1 then (if y5 = (-1) then (b_g (b_i32 (v7 + 1)) (some (.inl (v5, v6, (v7 + 1), M)))) else (b_bind (F_X12_classOf v2 y5 M) (fun x14 => if x14 = v3 then (b_g (0 ≤ v7 ∧ v7 < 120) (if (M 194 v7) = 3 then (b_bind (b_loop (fun t => F_X12_sumFor_s102 v1 v2 v3 v4 v5 v6 v7 t.1 t.2) (v6, M)) (fun t => F_X12_sumFor_b148 v1 v2 v3 v4 v5 v6 v7 (t.1) (t.2))) else (b_g ((0 ≤ v7 ∧ v7 < 120) ∧ (b_i32 (v5 + (M 215 v7)))) (b_let ((v5 + (M 215 v7))) (fun y35 => b_g (b_i32 (v7 + 1)) (some (.inl (y35, v6, (v7 + 1), M)))))))) else (b_g (b_i32 (v7 + 1)) (some (.inl (v5, v6, (v7 + 1), M))))))) else (b_g (b_i32 (v7 + 1)) (some (.inl (v5, v6, (v7 + 1), M))))))))))
theorem t_X12_sumFor_s9 {l : Launch} {E : bE} {Q : (Int × bM) → Prop} {v1 : Int} {v2 : Int} {v3 : Int} {v4 : Int} {v5 : Int} {v6 : Int} {v7 : Int} {M : bM} (h : b_wp (F_X12_sumFor_s9 v1 v2 v3 v4 v5 v6 v7 M) (Sum.elim (A_X12_sumFor_9 l E Q v1 v2 v3 v4) (X_X12_sumFor_9 l E Q v1 v2 v3 v4))) : V l E xX12_sumFor (0, 0) 9 [(0, bR 11), (1, bI v1), (2, bI v2), (3, bI v3), (4, bI v4), (5, bI v5), (6, bI v6), (7, bI v7)] [] M (b_pI Q) := by
  unfold F_X12_sumFor_s9 at h
  refine v_iload (i := 7) 7 rfl dX12_sumFor_9 ?_
  refine v_aload_n (f := 0) 0 rfl dX12_sumFor_11 ?_
  refine v_getI (kf := 53) (kz := 53) rfl kd_11 rfl ⟨by decide, by decide⟩ rfl wf_12_502 dX12_sumFor_12 ?_
  refine v_icmp_ge (tgt := 171) dX12_sumFor_15 (by decide) (fun c1 => ?_) (fun c1 => ?_)
  · replace h := b_wp_t c1 h
    refine v_sub (ls2 := [(0, bR _), (4, bI _), (5, bI _), (6, bI _)]) [0, 4, 5, 6] rfl ?_
    exact h
  · replace h := b_wp_f c1 h
    obtain ⟨⟨g2, g3, g4⟩, h⟩ := b_wp_g h
    refine v_aload_n (f := 0) 0 rfl dX12_sumFor_18 ?_
    refine v_getR (kf := 57) (kz := 57) rfl kd_11 rfl ⟨by decide, by decide⟩ rfl wf_12_121 dX12_sumFor_19 ?_
    refine v_iconst ⟨by decide, by decide⟩ dX12_sumFor_22 ?_
    refine v_iload (i := 7) 7 rfl dX12_sumFor_23 ?_
    refine v_imulN g2 dX12_sumFor_25 ?_
    refine v_iload_n (f := 2) 2 rfl dX12_sumFor_26 ?_
    refine v_iaddN g3 dX12_sumFor_27 ?_
    refine v_iaload kd_196 g4 (by decide) dX12_sumFor_28 ?_
    replace h := b_wp_l h
    obtain ⟨g6, h⟩ := b_wp_g h
    refine v_istore (i := 8) (ls' := [(8, bI _), (0, bR _), (1, bI _), (2, bI _), (3, bI _), (4, bI _), (5, bI _), (6, bI _), (7, bI _)]) (by decide) dX12_sumFor_29 rfl ?_
    refine v_aload_n (f := 0) 1 rfl dX12_sumFor_31 ?_
    refine v_getR (kf := 75) (kz := 75) rfl kd_11 rfl ⟨by decide, by decide⟩ rfl wf_12_176 dX12_sumFor_32 ?_
    refine v_iload (i := 7) 8 rfl dX12_sumFor_35 ?_
    refine v_zaload kd_214 g6 (by decide) dX12_sumFor_37 ?_
    refine v_if_eq (tgt := 165) dX12_sumFor_38 (by decide) (fun c7 => ?_) (fun c7 => ?_)
    · replace h := b_wp_t c7 h
      obtain ⟨g8, h⟩ := b_wp_g h
      refine v_iincN (ls' := [(7, bI _), (8, bI _), (0, bR _), (1, bI _), (2, bI _), (3, bI _), (4, bI _), (5, bI _), (6, bI _)]) 8 rfl (by decide) g8 dX12_sumFor_165 rfl ?_
      refine v_goto (tgt := 9) dX12_sumFor_168 (by decide) ?_
      refine v_sub (ls2 := [(0, bR _), (1, bI _), (2, bI _), (3, bI _), (4, bI _), (5, bI _), (6, bI _), (7, bI _)]) [2, 3, 4, 5, 6, 7, 8, 0] rfl ?_
      exact h
    · replace h := b_wp_f c7 h
      obtain ⟨g9, h⟩ := b_wp_g h
      refine v_aload_n (f := 0) 1 rfl dX12_sumFor_41 ?_
      refine v_getR (kf := 56) (kz := 56) rfl kd_11 rfl ⟨by decide, by decide⟩ rfl wf_12_118 dX12_sumFor_42 ?_
      refine v_iload (i := 7) 8 rfl dX12_sumFor_45 ?_
      refine v_iaload kd_195 g9 (by decide) dX12_sumFor_47 ?_
      refine v_iload_n (f := 1) 2 rfl dX12_sumFor_48 ?_
      refine v_icmp_ne (tgt := 165) dX12_sumFor_49 (by decide) (fun c10 => ?_) (fun c10 => ?_)
      · replace h := b_wp_f c10 h
        obtain ⟨g11, h⟩ := b_wp_g h
        refine v_iincN (ls' := [(7, bI _), (8, bI _), (0, bR _), (1, bI _), (2, bI _), (3, bI _), (4, bI _), (5, bI _), (6, bI _)]) 8 rfl (by decide) g11 dX12_sumFor_165 rfl ?_
        refine v_goto (tgt := 9) dX12_sumFor_168 (by decide) ?_
        refine v_sub (ls2 := [(0, bR _), (1, bI _), (2, bI _), (3, bI _), (4, bI _), (5, bI _), (6, bI _), (7, bI _)]) [2, 3, 4, 5, 6, 7, 8, 0] rfl ?_
        exact h
      · replace h := b_wp_t c10 h
        refine v_iload (i := 8) 0 rfl dX12_sumFor_52 ?_
        refine v_iconst ⟨by decide, by decide⟩ dX12_sumFor_54 ?_
        refine v_icmp_eq (tgt := 165) dX12_sumFor_55 (by decide) (fun c12 => ?_) (fun c12 => ?_)
        · replace h := b_wp_t c12 h
          obtain ⟨g13, h⟩ := b_wp_g h
          refine v_iincN (ls' := [(7, bI _), (8, bI _), (0, bR _), (1, bI _), (2, bI _), (3, bI _), (4, bI _), (5, bI _), (6, bI _)]) 8 rfl (by decide) g13 dX12_sumFor_165 rfl ?_
          refine v_goto (tgt := 9) dX12_sumFor_168 (by decide) ?_
          refine v_sub (ls2 := [(0, bR _), (1, bI _), (2, bI _), (3, bI _), (4, bI _), (5, bI _), (6, bI _), (7, bI _)]) [2, 3, 4, 5, 6, 7, 8, 0] rfl ?_
          exact h
        · replace h := b_wp_f c12 h
          refine v_aload_n (f := 0) 1 rfl dX12_sumFor_58 ?_
          refine v_iload_n (f := 2) 3 rfl dX12_sumFor_59 ?_
          refine v_iload (i := 8) 0 rfl dX12_sumFor_60 ?_
          refine v_cVIp (nA := 2) (As := [bI _, bI _]) (ix := 523) (cf_X12_classOf (b_wp_b h)) rfl kd_11 rfl rfl wc_X12_classOf wm_12_523 wi_X12_classOf ws_X12_classOf wn_12 ⟨by decide, by decide, by decide⟩ rfl ⟨by decide, by decide⟩ ⟨by decide, by decide⟩ (Nat.le_of_ble_eq_true rfl) dX12_sumFor_62 (fun x14 h => ?_)
          refine v_iload_n (f := 3) 4 rfl dX12_sumFor_65 ?_
          refine v_icmp_eq (tgt := 72) dX12_sumFor_66 (by decide) (fun c15 => ?_) (fun c15 => ?_)
          · replace h := b_wp_t c15 h
            obtain ⟨g16, h⟩ := b_wp_g h
            refine v_aload_n (f := 0) 1 rfl dX12_sumFor_72 ?_
            refine v_getR (kf := 55) (kz := 55) rfl kd_11 rfl ⟨by decide, by decide⟩ rfl wf_12_115 dX12_sumFor_73 ?_
            refine v_iload (i := 7) 8 rfl dX12_sumFor_76 ?_
            refine v_iaload kd_194 g16 (by decide) dX12_sumFor_78 ?_
            refine v_iconst ⟨by decide, by decide⟩ dX12_sumFor_79 ?_
            refine v_icmp_eq (tgt := 98) dX12_sumFor_80 (by decide) (fun c17 => ?_) (fun c17 => ?_)
            · replace h := b_wp_t c17 h
              refine v_iload (i := 6) 7 rfl dX12_sumFor_98 ?_
              refine v_istore (i := 9) (ls' := [(9, bI _), (8, bI _), (0, bR _), (1, bI _), (2, bI _), (3, bI _), (4, bI _), (5, bI _), (6, bI _), (7, bI _)]) (by decide) dX12_sumFor_100 rfl ?_
              refine v_sub (ls2 := [(0, bR _), (1, bI _), (2, bI _), (3, bI _), (4, bI _), (5, bI _), (6, bI _), (7, bI _), (9, bI _)]) [2, 3, 4, 5, 6, 7, 8, 9, 0] rfl ?_
              refine l_X12_sumFor_102 (b_wp_m (fun t h => ?_) (b_wp_b h))
              show V l E xX12_sumFor (0, 0) 148 [(0, bR 11), (1, bI _), (2, bI _), (3, bI _), (4, bI _), (5, bI _), (6, bI _), (7, bI _), (9, bI _)] [] _ (b_pI Q)
              exact t_X12_sumFor_b148 h
            · replace h := b_wp_f c17 h
              obtain ⟨⟨g33, g34⟩, h⟩ := b_wp_g h
              refine v_iload (i := 5) 6 rfl dX12_sumFor_83 ?_
              refine v_aload_n (f := 0) 1 rfl dX12_sumFor_85 ?_
              refine v_getR (kf := 76) (kz := 76) rfl kd_11 rfl ⟨by decide, by decide⟩ rfl wf_12_179 dX12_sumFor_86 ?_
              refine v_iload (i := 7) 8 rfl dX12_sumFor_89 ?_
              refine v_iaload kd_215 g33 (by decide) dX12_sumFor_91 ?_
              refine v_iaddN g34 dX12_sumFor_92 ?_
              replace h := b_wp_l h
              obtain ⟨g36, h⟩ := b_wp_g h
              refine v_istore (i := 5) (ls' := [(5, bI _), (8, bI _), (0, bR _), (1, bI _), (2, bI _), (3, bI _), (4, bI _), (6, bI _), (7, bI _)]) (by decide) dX12_sumFor_93 rfl ?_
              refine v_goto (tgt := 165) dX12_sumFor_95 (by decide) ?_
              refine v_iincN (ls' := [(7, bI _), (5, bI _), (8, bI _), (0, bR _), (1, bI _), (2, bI _), (3, bI _), (4, bI _), (6, bI _)]) 8 rfl (by decide) g36 dX12_sumFor_165 rfl ?_
              refine v_goto (tgt := 9) dX12_sumFor_168 (by decide) ?_
              refine v_sub (ls2 := [(0, bR _), (1, bI _), (2, bI _), (3, bI _), (4, bI _), (5, bI _), (6, bI _), (7, bI _)]) [3, 4, 5, 6, 7, 1, 8, 0] rfl ?_
              exact h
          · replace h := b_wp_f c15 h
            obtain ⟨g37, h⟩ := b_wp_g h
            refine v_goto (tgt := 165) dX12_sumFor_69 (by decide) ?_
            refine v_iincN (ls' := [(7, bI _), (8, bI _), (0, bR _), (1, bI _), (2, bI _), (3, bI _), (4, bI _), (5, bI _), (6, bI _)]) 8 rfl (by decide) g37 dX12_sumFor_165 rfl ?_
            refine v_goto (tgt := 9) dX12_sumFor_168 (by decide) ?_
            refine v_sub (ls2 := [(0, bR _), (1, bI _), (2, bI _), (3, bI _), (4, bI _), (5, bI _), (6, bI _), (7, bI _)]) [2, 3, 4, 5, 6, 7, 8, 0] rfl ?_
            exact h
theorem l_X12_sumFor_9 {l : Launch} {E : bE} {Q : (Int × bM) → Prop} {v1 : Int} {v2 : Int} {v3 : Int} {v4 : Int} {s : Int × Int × Int × bM} (h : b_wp (b_loop (fun t => F_X12_sumFor_s9 v1 v2 v3 v4 t.1 t.2.1 t.2.2.1 t.2.2.2) s) (X_X12_sumFor_9 l E Q v1 v2 v3 v4)) : A_X12_sumFor_9 l E Q v1 v2 v3 v4 s := b_loop_wp (fun t h => t_X12_sumFor_s9 h) s h
abbrev A_X12_sumFor_174 (l : Launch) (E : bE) (Q : (Int × bM) → Prop) (v4 : Int) (v6 : Int) (M : bM) : (Int × Int) → Prop := (fun t : Int × Int => V l E xX12_sumFor (0, 0) 174 [(0, bR 11), (4, bI v4), (5, bI (t.1)), (6, bI v6), (7, bI (t.2))] [] M (b_pI Q))
abbrev X_X12_sumFor_174 (l : Launch) (E : bE) (Q : (Int × bM) → Prop) (v4 : Int) (v6 : Int) (M : bM) : (Int) → Prop := (fun t : Int => V l E xX12_sumFor (0, 0) 206 [(5, bI t)] [] M (b_pI Q))
noncomputable def F_X12_sumFor_s174 (v4 : Int) (v5 : Int) (v6 : Int) (v7 : Int) (M : bM) : Option ((Int × Int) ⊕ (Int)) :=
  if v6 ≤ v7 then (some (.inr (v5))) else (if v4 ≤ v7 then (some (.inr (v5))) else (b_g ((0 ≤ v7 ∧ v7 < 120) ∧ (b_i32 (v5 + (M 216 v7)))) (b_let ((v5 + (M 216 v7))) (fun y42 => b_g (b_i32 (v7 + 1)) (some (.inl (y42, (v7 + 1))))))))
theorem t_X12_sumFor_s174 {l : Launch} {E : bE} {Q : (Int × bM) → Prop} {v4 : Int} {v5 : Int} {v6 : Int} {v7 : Int} {M : bM} (h : b_wp (F_X12_sumFor_s174 v4 v5 v6 v7 M) (Sum.elim (A_X12_sumFor_174 l E Q v4 v6 M) (X_X12_sumFor_174 l E Q v4 v6 M))) : V l E xX12_sumFor (0, 0) 174 [(0, bR 11), (4, bI v4), (5, bI v5), (6, bI v6), (7, bI v7)] [] M (b_pI Q) := by
  unfold F_X12_sumFor_s174 at h
  refine v_iload (i := 7) 4 rfl dX12_sumFor_174 ?_
  refine v_iload (i := 6) 3 rfl dX12_sumFor_176 ?_
  refine v_icmp_ge (tgt := 206) dX12_sumFor_178 (by decide) (fun c38 => ?_) (fun c38 => ?_)
  · replace h := b_wp_t c38 h
    refine v_sub (ls2 := [(5, bI _)]) [2] rfl ?_
    exact h
  · replace h := b_wp_f c38 h
    refine v_iload (i := 7) 4 rfl dX12_sumFor_181 ?_
    refine v_iload (i := 4) 1 rfl dX12_sumFor_183 ?_
    refine v_icmp_ge (tgt := 206) dX12_sumFor_185 (by decide) (fun c39 => ?_) (fun c39 => ?_)
    · replace h := b_wp_t c39 h
      refine v_sub (ls2 := [(5, bI _)]) [2] rfl ?_
      exact h
    · replace h := b_wp_f c39 h
      obtain ⟨⟨g40, g41⟩, h⟩ := b_wp_g h
      refine v_iload (i := 5) 2 rfl dX12_sumFor_188 ?_
      refine v_aload_n (f := 0) 0 rfl dX12_sumFor_190 ?_
      refine v_getR (kf := 77) (kz := 77) rfl kd_11 rfl ⟨by decide, by decide⟩ rfl wf_12_182 dX12_sumFor_191 ?_
      refine v_iload (i := 7) 4 rfl dX12_sumFor_194 ?_
      refine v_iaload kd_216 g40 (by decide) dX12_sumFor_196 ?_
      refine v_iaddN g41 dX12_sumFor_197 ?_
      replace h := b_wp_l h
      obtain ⟨g43, h⟩ := b_wp_g h
      refine v_istore (i := 5) (ls' := [(5, bI _), (0, bR _), (4, bI _), (6, bI _), (7, bI _)]) (by decide) dX12_sumFor_198 rfl ?_
      refine v_iincN (ls' := [(7, bI _), (5, bI _), (0, bR _), (4, bI _), (6, bI _)]) 4 rfl (by decide) g43 dX12_sumFor_200 rfl ?_
      refine v_goto (tgt := 174) dX12_sumFor_203 (by decide) ?_
      refine v_sub (ls2 := [(0, bR _), (4, bI _), (5, bI _), (6, bI _), (7, bI _)]) [2, 3, 1, 4, 0] rfl ?_
      exact h
theorem l_X12_sumFor_174 {l : Launch} {E : bE} {Q : (Int × bM) → Prop} {v4 : Int} {v6 : Int} {M : bM} {s : Int × Int} (h : b_wp (b_loop (fun t => F_X12_sumFor_s174 v4 t.1 v6 t.2 M) s) (X_X12_sumFor_174 l E Q v4 v6 M)) : A_X12_sumFor_174 l E Q v4 v6 M s := b_loop_wp (fun t h => t_X12_sumFor_s174 h) s h
noncomputable def F_X12_sumFor_b206 (v5 : Int) (M : bM) : Option (Int × bM) :=
  some (v5, M)
theorem t_X12_sumFor_b206 {l : Launch} {E : bE} {Q : (Int × bM) → Prop} {v5 : Int} {M : bM} (h : b_wp (F_X12_sumFor_b206 v5 M) (Q)) : V l E xX12_sumFor (0, 0) 206 [(5, bI v5)] [] M (b_pI Q) := by
  unfold F_X12_sumFor_b206 at h
  refine v_iload (i := 5) 0 rfl dX12_sumFor_206 ?_
  refine v_ireturn rfl dX12_sumFor_208 ⟨by decide, by decide⟩ ?_
  exact ⟨_, rfl, h⟩
noncomputable def F_X12_sumFor_b171 (v4 : Int) (v5 : Int) (v6 : Int) (M : bM) : Option (Int × bM) :=
  b_bind (b_loop (fun t => F_X12_sumFor_s174 v4 t.1 v6 t.2 M) (v5, 0)) (fun t => F_X12_sumFor_b206 t M)
theorem t_X12_sumFor_b171 {l : Launch} {E : bE} {Q : (Int × bM) → Prop} {v4 : Int} {v5 : Int} {v6 : Int} {M : bM} (h : b_wp (F_X12_sumFor_b171 v4 v5 v6 M) (Q)) : V l E xX12_sumFor (0, 0) 171 [(0, bR 11), (4, bI v4), (5, bI v5), (6, bI v6)] [] M (b_pI Q) := by
  unfold F_X12_sumFor_b171 at h
  refine v_iconst ⟨by decide, by decide⟩ dX12_sumFor_171 ?_
  refine v_istore (i := 7) (ls' := [(7, bI _), (0, bR _), (4, bI _), (5, bI _), (6, bI _)]) (by decide) dX12_sumFor_172 rfl ?_
  refine v_sub (ls2 := [(0, bR _), (4, bI _), (5, bI _), (6, bI _), (7, bI _)]) [1, 2, 3, 4, 0] rfl ?_
  refine l_X12_sumFor_174 (b_wp_m (fun t h => ?_) (b_wp_b h))
  show V l E xX12_sumFor (0, 0) 206 [(5, bI _)] [] _ (b_pI Q)
  exact t_X12_sumFor_b206 h
noncomputable def F_X12_sumFor (v1 : Int) (v2 : Int) (v3 : Int) (v4 : Int) (M : bM) : Option (Int × bM) :=
  b_bind (b_loop (fun t => F_X12_sumFor_s9 v1 v2 v3 v4 t.1 t.2.1 t.2.2.1 t.2.2.2) (0, 0, 0, M)) (fun t => F_X12_sumFor_b171 v4 (t.1) (t.2.1) (t.2.2))
theorem t_X12_sumFor {l : Launch} {E : bE} {Q : (Int × bM) → Prop} {v1 : Int} {v2 : Int} {v3 : Int} {v4 : Int} {M : bM} (h : b_wp (F_X12_sumFor v1 v2 v3 v4 M) (Q)) : V l E xX12_sumFor (0, 0) 0 [(0, bR 11), (1, bI v1), (2, bI v2), (3, bI v3), (4, bI v4)] [] M (b_pI Q) := by
  unfold F_X12_sumFor at h
  refine v_iconst ⟨by decide, by decide⟩ dX12_sumFor_0 ?_
  refine v_istore (i := 5) (ls' := [(5, bI _), (0, bR _), (1, bI _), (2, bI _), (3, bI _), (4, bI _)]) (by decide) dX12_sumFor_1 rfl ?_
  refine v_iconst ⟨by decide, by decide⟩ dX12_sumFor_3 ?_
  refine v_istore (i := 6) (ls' := [(6, bI _), (5, bI _), (0, bR _), (1, bI _), (2, bI _), (3, bI _), (4, bI _)]) (by decide) dX12_sumFor_4 rfl ?_
  refine v_iconst ⟨by decide, by decide⟩ dX12_sumFor_6 ?_
  refine v_istore (i := 7) (ls' := [(7, bI _), (6, bI _), (5, bI _), (0, bR _), (1, bI _), (2, bI _), (3, bI _), (4, bI _)]) (by decide) dX12_sumFor_7 rfl ?_
  refine v_sub (ls2 := [(0, bR _), (1, bI _), (2, bI _), (3, bI _), (4, bI _), (5, bI _), (6, bI _), (7, bI _)]) [3, 4, 5, 6, 7, 2, 1, 0] rfl ?_
  refine l_X12_sumFor_9 (b_wp_m (fun t h => ?_) (b_wp_b h))
  show V l E xX12_sumFor (0, 0) 171 [(0, bR 11), (4, bI _), (5, bI _), (6, bI _)] [] _ (b_pI Q)
  exact t_X12_sumFor_b171 h
theorem cf_X12_sumFor {l : Launch} {E : bE} {M : bM} {v1 : Int} {v2 : Int} {v3 : Int} {v4 : Int} {Q : (Int × bM) → Prop} (h : b_wp (F_X12_sumFor v1 v2 v3 v4 M) Q) : b_C l E xX12_sumFor yX12_sumFor [bR 11, bI v1, bI v2, bI v3, bI v4] M (b_pI Q) := b_met (by decide) ⟨rfl, rfl⟩ (Nat.le_of_ble_eq_true rfl) (fun _ _ => t_X12_sumFor h)
abbrev xX12_show : bX := ("BurntHallModel", prog_14_method_86_code, 11, (Option.none : Option Jvm.ClassFile.FieldType), b_rm 3 0 0, 0, "show")
abbrev yX12_show : MethodName := ⟨"BurntHallModel", "show", "(III)V"⟩
theorem dX12_show_0 : decode prog_14_method_86_code 0 = .ok (.iconst 0, 1) := by decide +kernel
theorem dX12_show_1 : decode prog_14_method_86_code 1 = .ok (.istore 4, 2) := by decide +kernel
theorem dX12_show_3 : decode prog_14_method_86_code 3 = .ok (.iconst (-1), 1) := by decide +kernel
theorem dX12_show_4 : decode prog_14_method_86_code 4 = .ok (.istore 5, 2) := by decide +kernel
theorem dX12_show_6 : decode prog_14_method_86_code 6 = .ok (.iconst 1, 1) := by decide +kernel
theorem dX12_show_7 : decode prog_14_method_86_code 7 = .ok (.istore 6, 2) := by decide +kernel
theorem dX12_show_9 : decode prog_14_method_86_code 9 = .ok (.iconst 0, 1) := by decide +kernel
theorem dX12_show_10 : decode prog_14_method_86_code 10 = .ok (.istore 7, 2) := by decide +kernel
theorem dX12_show_12 : decode prog_14_method_86_code 12 = .ok (.iload 7, 2) := by decide +kernel
theorem dX12_show_14 : decode prog_14_method_86_code 14 = .ok (.aload_n 0, 1) := by decide +kernel
theorem dX12_show_15 : decode prog_14_method_86_code 15 = .ok (.getfield 502, 3) := by decide +kernel
theorem dX12_show_18 : decode prog_14_method_86_code 18 = .ok (.if_icmp .ge 165, 3) := by decide +kernel
theorem dX12_show_21 : decode prog_14_method_86_code 21 = .ok (.aload_n 0, 1) := by decide +kernel
theorem dX12_show_22 : decode prog_14_method_86_code 22 = .ok (.getfield 121, 3) := by decide +kernel
theorem dX12_show_25 : decode prog_14_method_86_code 25 = .ok (.iconst 3, 1) := by decide +kernel
theorem dX12_show_26 : decode prog_14_method_86_code 26 = .ok (.iload 7, 2) := by decide +kernel
theorem dX12_show_28 : decode prog_14_method_86_code 28 = .ok (.imul, 1) := by decide +kernel
theorem dX12_show_29 : decode prog_14_method_86_code 29 = .ok (.iload_n 2, 1) := by decide +kernel
theorem dX12_show_30 : decode prog_14_method_86_code 30 = .ok (.iadd, 1) := by decide +kernel
theorem dX12_show_31 : decode prog_14_method_86_code 31 = .ok (.iaload, 1) := by decide +kernel
theorem dX12_show_32 : decode prog_14_method_86_code 32 = .ok (.istore 8, 2) := by decide +kernel
theorem dX12_show_34 : decode prog_14_method_86_code 34 = .ok (.aload_n 0, 1) := by decide +kernel
theorem dX12_show_35 : decode prog_14_method_86_code 35 = .ok (.getfield 176, 3) := by decide +kernel
theorem dX12_show_38 : decode prog_14_method_86_code 38 = .ok (.iload 7, 2) := by decide +kernel
theorem dX12_show_40 : decode prog_14_method_86_code 40 = .ok (.baload, 1) := by decide +kernel
theorem dX12_show_41 : decode prog_14_method_86_code 41 = .ok (.ifCond .eq 136, 3) := by decide +kernel
theorem dX12_show_44 : decode prog_14_method_86_code 44 = .ok (.aload_n 0, 1) := by decide +kernel
theorem dX12_show_45 : decode prog_14_method_86_code 45 = .ok (.getfield 118, 3) := by decide +kernel
theorem dX12_show_48 : decode prog_14_method_86_code 48 = .ok (.iload 7, 2) := by decide +kernel
theorem dX12_show_50 : decode prog_14_method_86_code 50 = .ok (.iaload, 1) := by decide +kernel
theorem dX12_show_51 : decode prog_14_method_86_code 51 = .ok (.iload_n 1, 1) := by decide +kernel
theorem dX12_show_52 : decode prog_14_method_86_code 52 = .ok (.if_icmp .ne 125, 3) := by decide +kernel
theorem dX12_show_55 : decode prog_14_method_86_code 55 = .ok (.iload 8, 2) := by decide +kernel
theorem dX12_show_57 : decode prog_14_method_86_code 57 = .ok (.iconst (-1), 1) := by decide +kernel
theorem dX12_show_58 : decode prog_14_method_86_code 58 = .ok (.if_icmp .ne 6, 3) := by decide +kernel
theorem dX12_show_61 : decode prog_14_method_86_code 61 = .ok (.goto 116, 3) := by decide +kernel
theorem dX12_show_64 : decode prog_14_method_86_code 64 = .ok (.aload_n 0, 1) := by decide +kernel
theorem dX12_show_65 : decode prog_14_method_86_code 65 = .ok (.iload_n 2, 1) := by decide +kernel
theorem dX12_show_66 : decode prog_14_method_86_code 66 = .ok (.iload 8, 2) := by decide +kernel
theorem dX12_show_68 : decode prog_14_method_86_code 68 = .ok (.invokevirtual 523, 3) := by decide +kernel
theorem dX12_show_71 : decode prog_14_method_86_code 71 = .ok (.istore 9, 2) := by decide +kernel
theorem dX12_show_73 : decode prog_14_method_86_code 73 = .ok (.iload 5, 2) := by decide +kernel
theorem dX12_show_75 : decode prog_14_method_86_code 75 = .ok (.iconst (-1), 1) := by decide +kernel
theorem dX12_show_76 : decode prog_14_method_86_code 76 = .ok (.if_icmp .eq 34, 3) := by decide +kernel
theorem dX12_show_79 : decode prog_14_method_86_code 79 = .ok (.aload_n 0, 1) := by decide +kernel
theorem dX12_show_80 : decode prog_14_method_86_code 80 = .ok (.iload_n 2, 1) := by decide +kernel
theorem dX12_show_81 : decode prog_14_method_86_code 81 = .ok (.iload 5, 2) := by decide +kernel
theorem dX12_show_83 : decode prog_14_method_86_code 83 = .ok (.invokevirtual 523, 3) := by decide +kernel
theorem dX12_show_86 : decode prog_14_method_86_code 86 = .ok (.iload 9, 2) := by decide +kernel
theorem dX12_show_88 : decode prog_14_method_86_code 88 = .ok (.if_icmp .ne 22, 3) := by decide +kernel
theorem dX12_show_91 : decode prog_14_method_86_code 91 = .ok (.iload 8, 2) := by decide +kernel
theorem dX12_show_93 : decode prog_14_method_86_code 93 = .ok (.iload 5, 2) := by decide +kernel
theorem dX12_show_95 : decode prog_14_method_86_code 95 = .ok (.if_icmp .ge 8, 3) := by decide +kernel
theorem dX12_show_98 : decode prog_14_method_86_code 98 = .ok (.iload 8, 2) := by decide +kernel
theorem dX12_show_100 : decode prog_14_method_86_code 100 = .ok (.goto 5, 3) := by decide +kernel
theorem dX12_show_103 : decode prog_14_method_86_code 103 = .ok (.iload 5, 2) := by decide +kernel
theorem dX12_show_105 : decode prog_14_method_86_code 105 = .ok (.istore 5, 2) := by decide +kernel
theorem dX12_show_107 : decode prog_14_method_86_code 107 = .ok (.goto 70, 3) := by decide +kernel
theorem dX12_show_110 : decode prog_14_method_86_code 110 = .ok (.aload_n 0, 1) := by decide +kernel
theorem dX12_show_111 : decode prog_14_method_86_code 111 = .ok (.iload_n 1, 1) := by decide +kernel
theorem dX12_show_112 : decode prog_14_method_86_code 112 = .ok (.iload_n 2, 1) := by decide +kernel
theorem dX12_show_113 : decode prog_14_method_86_code 113 = .ok (.iload 9, 2) := by decide +kernel
theorem dX12_show_115 : decode prog_14_method_86_code 115 = .ok (.aload_n 0, 1) := by decide +kernel
theorem dX12_show_116 : decode prog_14_method_86_code 116 = .ok (.iload_n 3, 1) := by decide +kernel
theorem dX12_show_117 : decode prog_14_method_86_code 117 = .ok (.bipush 7, 2) := by decide +kernel
theorem dX12_show_119 : decode prog_14_method_86_code 119 = .ok (.invokevirtual 493, 3) := by decide +kernel
theorem dX12_show_122 : decode prog_14_method_86_code 122 = .ok (.invokevirtual 526, 3) := by decide +kernel
theorem dX12_show_125 : decode prog_14_method_86_code 125 = .ok (.istore 10, 2) := by decide +kernel
theorem dX12_show_127 : decode prog_14_method_86_code 127 = .ok (.iload 10, 2) := by decide +kernel
theorem dX12_show_129 : decode prog_14_method_86_code 129 = .ok (.aload_n 0, 1) := by decide +kernel
theorem dX12_show_130 : decode prog_14_method_86_code 130 = .ok (.iload_n 3, 1) := by decide +kernel
theorem dX12_show_131 : decode prog_14_method_86_code 131 = .ok (.iconst 0, 1) := by decide +kernel
theorem dX12_show_132 : decode prog_14_method_86_code 132 = .ok (.invokevirtual 493, 3) := by decide +kernel
theorem dX12_show_135 : decode prog_14_method_86_code 135 = .ok (.if_icmp .lt 42, 3) := by decide +kernel
theorem dX12_show_138 : decode prog_14_method_86_code 138 = .ok (.iload 10, 2) := by decide +kernel
theorem dX12_show_140 : decode prog_14_method_86_code 140 = .ok (.ifCond .le 37, 3) := by decide +kernel
theorem dX12_show_143 : decode prog_14_method_86_code 143 = .ok (.iload 10, 2) := by decide +kernel
theorem dX12_show_145 : decode prog_14_method_86_code 145 = .ok (.iload 4, 2) := by decide +kernel
theorem dX12_show_147 : decode prog_14_method_86_code 147 = .ok (.if_icmp .ge 6, 3) := by decide +kernel
theorem dX12_show_150 : decode prog_14_method_86_code 150 = .ok (.goto 27, 3) := by decide +kernel
theorem dX12_show_153 : decode prog_14_method_86_code 153 = .ok (.iload 10, 2) := by decide +kernel
theorem dX12_show_155 : decode prog_14_method_86_code 155 = .ok (.iload 4, 2) := by decide +kernel
theorem dX12_show_157 : decode prog_14_method_86_code 157 = .ok (.if_icmp .ne 9, 3) := by decide +kernel
theorem dX12_show_160 : decode prog_14_method_86_code 160 = .ok (.iconst 0, 1) := by decide +kernel
theorem dX12_show_161 : decode prog_14_method_86_code 161 = .ok (.istore 6, 2) := by decide +kernel
theorem dX12_show_163 : decode prog_14_method_86_code 163 = .ok (.goto 14, 3) := by decide +kernel
theorem dX12_show_166 : decode prog_14_method_86_code 166 = .ok (.iload 10, 2) := by decide +kernel
theorem dX12_show_168 : decode prog_14_method_86_code 168 = .ok (.istore 4, 2) := by decide +kernel
theorem dX12_show_170 : decode prog_14_method_86_code 170 = .ok (.iload 8, 2) := by decide +kernel
theorem dX12_show_172 : decode prog_14_method_86_code 172 = .ok (.istore 5, 2) := by decide +kernel
theorem dX12_show_174 : decode prog_14_method_86_code 174 = .ok (.iconst 1, 1) := by decide +kernel
theorem dX12_show_175 : decode prog_14_method_86_code 175 = .ok (.istore 6, 2) := by decide +kernel
theorem dX12_show_177 : decode prog_14_method_86_code 177 = .ok (.iinc 7 1, 3) := by decide +kernel
theorem dX12_show_180 : decode prog_14_method_86_code 180 = .ok (.goto (-168), 3) := by decide +kernel
theorem dX12_show_183 : decode prog_14_method_86_code 183 = .ok (.iload 5, 2) := by decide +kernel
theorem dX12_show_185 : decode prog_14_method_86_code 185 = .ok (.iconst (-1), 1) := by decide +kernel
theorem dX12_show_186 : decode prog_14_method_86_code 186 = .ok (.if_icmp .eq 12, 3) := by decide +kernel
theorem dX12_show_189 : decode prog_14_method_86_code 189 = .ok (.iload 6, 2) := by decide +kernel
theorem dX12_show_191 : decode prog_14_method_86_code 191 = .ok (.ifCond .eq 7, 3) := by decide +kernel
theorem dX12_show_194 : decode prog_14_method_86_code 194 = .ok (.iconst 1, 1) := by decide +kernel
theorem dX12_show_195 : decode prog_14_method_86_code 195 = .ok (.goto 4, 3) := by decide +kernel
theorem dX12_show_198 : decode prog_14_method_86_code 198 = .ok (.iconst 0, 1) := by decide +kernel
theorem dX12_show_199 : decode prog_14_method_86_code 199 = .ok (.istore 7, 2) := by decide +kernel
theorem dX12_show_201 : decode prog_14_method_86_code 201 = .ok (.iconst 0, 1) := by decide +kernel
theorem dX12_show_202 : decode prog_14_method_86_code 202 = .ok (.istore 8, 2) := by decide +kernel
theorem dX12_show_204 : decode prog_14_method_86_code 204 = .ok (.iload 8, 2) := by decide +kernel
theorem dX12_show_206 : decode prog_14_method_86_code 206 = .ok (.aload_n 0, 1) := by decide +kernel
theorem dX12_show_207 : decode prog_14_method_86_code 207 = .ok (.getfield 502, 3) := by decide +kernel
theorem dX12_show_210 : decode prog_14_method_86_code 210 = .ok (.if_icmp .ge 82, 3) := by decide +kernel
theorem dX12_show_213 : decode prog_14_method_86_code 213 = .ok (.iload 7, 2) := by decide +kernel
theorem dX12_show_215 : decode prog_14_method_86_code 215 = .ok (.ifCond .eq 77, 3) := by decide +kernel
theorem dX12_show_218 : decode prog_14_method_86_code 218 = .ok (.aload_n 0, 1) := by decide +kernel
theorem dX12_show_219 : decode prog_14_method_86_code 219 = .ok (.getfield 121, 3) := by decide +kernel
theorem dX12_show_222 : decode prog_14_method_86_code 222 = .ok (.iconst 3, 1) := by decide +kernel
theorem dX12_show_223 : decode prog_14_method_86_code 223 = .ok (.iload 8, 2) := by decide +kernel
theorem dX12_show_225 : decode prog_14_method_86_code 225 = .ok (.imul, 1) := by decide +kernel
theorem dX12_show_226 : decode prog_14_method_86_code 226 = .ok (.iload_n 2, 1) := by decide +kernel
theorem dX12_show_227 : decode prog_14_method_86_code 227 = .ok (.iadd, 1) := by decide +kernel
theorem dX12_show_228 : decode prog_14_method_86_code 228 = .ok (.iaload, 1) := by decide +kernel
theorem dX12_show_229 : decode prog_14_method_86_code 229 = .ok (.istore 9, 2) := by decide +kernel
theorem dX12_show_231 : decode prog_14_method_86_code 231 = .ok (.aload_n 0, 1) := by decide +kernel
theorem dX12_show_232 : decode prog_14_method_86_code 232 = .ok (.getfield 176, 3) := by decide +kernel
theorem dX12_show_235 : decode prog_14_method_86_code 235 = .ok (.iload 8, 2) := by decide +kernel
theorem dX12_show_237 : decode prog_14_method_86_code 237 = .ok (.baload, 1) := by decide +kernel
theorem dX12_show_238 : decode prog_14_method_86_code 238 = .ok (.ifCond .eq 48, 3) := by decide +kernel
theorem dX12_show_241 : decode prog_14_method_86_code 241 = .ok (.aload_n 0, 1) := by decide +kernel
theorem dX12_show_242 : decode prog_14_method_86_code 242 = .ok (.getfield 118, 3) := by decide +kernel
theorem dX12_show_245 : decode prog_14_method_86_code 245 = .ok (.iload 8, 2) := by decide +kernel
theorem dX12_show_247 : decode prog_14_method_86_code 247 = .ok (.iaload, 1) := by decide +kernel
theorem dX12_show_248 : decode prog_14_method_86_code 248 = .ok (.iload_n 1, 1) := by decide +kernel
theorem dX12_show_249 : decode prog_14_method_86_code 249 = .ok (.if_icmp .ne 37, 3) := by decide +kernel
theorem dX12_show_252 : decode prog_14_method_86_code 252 = .ok (.iload 9, 2) := by decide +kernel
theorem dX12_show_254 : decode prog_14_method_86_code 254 = .ok (.iconst (-1), 1) := by decide +kernel
theorem dX12_show_255 : decode prog_14_method_86_code 255 = .ok (.if_icmp .eq 31, 3) := by decide +kernel
theorem dX12_show_258 : decode prog_14_method_86_code 258 = .ok (.aload_n 0, 1) := by decide +kernel
theorem dX12_show_259 : decode prog_14_method_86_code 259 = .ok (.iload_n 2, 1) := by decide +kernel
theorem dX12_show_260 : decode prog_14_method_86_code 260 = .ok (.iload 9, 2) := by decide +kernel
theorem dX12_show_262 : decode prog_14_method_86_code 262 = .ok (.invokevirtual 523, 3) := by decide +kernel
theorem dX12_show_265 : decode prog_14_method_86_code 265 = .ok (.aload_n 0, 1) := by decide +kernel
theorem dX12_show_266 : decode prog_14_method_86_code 266 = .ok (.iload_n 2, 1) := by decide +kernel
theorem dX12_show_267 : decode prog_14_method_86_code 267 = .ok (.iload 5, 2) := by decide +kernel
theorem dX12_show_269 : decode prog_14_method_86_code 269 = .ok (.invokevirtual 523, 3) := by decide +kernel
theorem dX12_show_272 : decode prog_14_method_86_code 272 = .ok (.if_icmp .ne 14, 3) := by decide +kernel
theorem dX12_show_275 : decode prog_14_method_86_code 275 = .ok (.iload 9, 2) := by decide +kernel
theorem dX12_show_277 : decode prog_14_method_86_code 277 = .ok (.iload 5, 2) := by decide +kernel
theorem dX12_show_279 : decode prog_14_method_86_code 279 = .ok (.if_icmp .ge 7, 3) := by decide +kernel
theorem dX12_show_282 : decode prog_14_method_86_code 282 = .ok (.iload 9, 2) := by decide +kernel
theorem dX12_show_284 : decode prog_14_method_86_code 284 = .ok (.istore 5, 2) := by decide +kernel
theorem dX12_show_286 : decode prog_14_method_86_code 286 = .ok (.iinc 8 1, 3) := by decide +kernel
theorem dX12_show_289 : decode prog_14_method_86_code 289 = .ok (.goto (-85), 3) := by decide +kernel
theorem dX12_show_292 : decode prog_14_method_86_code 292 = .ok (.aload_n 0, 1) := by decide +kernel
theorem dX12_show_293 : decode prog_14_method_86_code 293 = .ok (.getfield 161, 3) := by decide +kernel
theorem dX12_show_296 : decode prog_14_method_86_code 296 = .ok (.iconst 3, 1) := by decide +kernel
theorem dX12_show_297 : decode prog_14_method_86_code 297 = .ok (.iload_n 1, 1) := by decide +kernel
theorem dX12_show_298 : decode prog_14_method_86_code 298 = .ok (.imul, 1) := by decide +kernel
theorem dX12_show_299 : decode prog_14_method_86_code 299 = .ok (.iload_n 2, 1) := by decide +kernel
theorem dX12_show_300 : decode prog_14_method_86_code 300 = .ok (.iadd, 1) := by decide +kernel
theorem dX12_show_301 : decode prog_14_method_86_code 301 = .ok (.iload 7, 2) := by decide +kernel
theorem dX12_show_303 : decode prog_14_method_86_code 303 = .ok (.ifCond .eq 8, 3) := by decide +kernel
theorem dX12_show_306 : decode prog_14_method_86_code 306 = .ok (.iload 5, 2) := by decide +kernel
theorem dX12_show_308 : decode prog_14_method_86_code 308 = .ok (.goto 4, 3) := by decide +kernel
theorem dX12_show_311 : decode prog_14_method_86_code 311 = .ok (.iconst (-1), 1) := by decide +kernel
theorem dX12_show_312 : decode prog_14_method_86_code 312 = .ok (.iastore, 1) := by decide +kernel
theorem dX12_show_313 : decode prog_14_method_86_code 313 = .ok (.aload_n 0, 1) := by decide +kernel
theorem dX12_show_314 : decode prog_14_method_86_code 314 = .ok (.getfield 164, 3) := by decide +kernel
theorem dX12_show_317 : decode prog_14_method_86_code 317 = .ok (.iconst 3, 1) := by decide +kernel
theorem dX12_show_318 : decode prog_14_method_86_code 318 = .ok (.iload_n 1, 1) := by decide +kernel
theorem dX12_show_319 : decode prog_14_method_86_code 319 = .ok (.imul, 1) := by decide +kernel
theorem dX12_show_320 : decode prog_14_method_86_code 320 = .ok (.iload_n 2, 1) := by decide +kernel
theorem dX12_show_321 : decode prog_14_method_86_code 321 = .ok (.iadd, 1) := by decide +kernel
theorem dX12_show_322 : decode prog_14_method_86_code 322 = .ok (.iload 7, 2) := by decide +kernel
theorem dX12_show_324 : decode prog_14_method_86_code 324 = .ok (.ifCond .eq 8, 3) := by decide +kernel
theorem dX12_show_327 : decode prog_14_method_86_code 327 = .ok (.iload 4, 2) := by decide +kernel
theorem dX12_show_329 : decode prog_14_method_86_code 329 = .ok (.goto 4, 3) := by decide +kernel
theorem dX12_show_332 : decode prog_14_method_86_code 332 = .ok (.iconst 0, 1) := by decide +kernel
theorem dX12_show_333 : decode prog_14_method_86_code 333 = .ok (.iastore, 1) := by decide +kernel
theorem dX12_show_334 : decode prog_14_method_86_code 334 = .ok (.iload 5, 2) := by decide +kernel
theorem dX12_show_336 : decode prog_14_method_86_code 336 = .ok (.iconst (-1), 1) := by decide +kernel
theorem dX12_show_337 : decode prog_14_method_86_code 337 = .ok (.if_icmp .eq 20, 3) := by decide +kernel
theorem dX12_show_340 : decode prog_14_method_86_code 340 = .ok (.iload 6, 2) := by decide +kernel
theorem dX12_show_342 : decode prog_14_method_86_code 342 = .ok (.ifCond .ne 15, 3) := by decide +kernel
theorem dX12_show_345 : decode prog_14_method_86_code 345 = .ok (.aload_n 0, 1) := by decide +kernel
theorem dX12_show_346 : decode prog_14_method_86_code 346 = .ok (.getfield 173, 3) := by decide +kernel
theorem dX12_show_349 : decode prog_14_method_86_code 349 = .ok (.iload_n 1, 1) := by decide +kernel
theorem dX12_show_350 : decode prog_14_method_86_code 350 = .ok (.dup2, 1) := by decide +kernel
theorem dX12_show_351 : decode prog_14_method_86_code 351 = .ok (.iaload, 1) := by decide +kernel
theorem dX12_show_352 : decode prog_14_method_86_code 352 = .ok (.iconst 1, 1) := by decide +kernel
theorem dX12_show_353 : decode prog_14_method_86_code 353 = .ok (.iload_n 2, 1) := by decide +kernel
theorem dX12_show_354 : decode prog_14_method_86_code 354 = .ok (.ishl, 1) := by decide +kernel
theorem dX12_show_355 : decode prog_14_method_86_code 355 = .ok (.ior, 1) := by decide +kernel
theorem dX12_show_356 : decode prog_14_method_86_code 356 = .ok (.iastore, 1) := by decide +kernel
theorem dX12_show_357 : decode prog_14_method_86_code 357 = .ok (.return_, 1) := by decide +kernel
abbrev A_X12_show_12 (l : Launch) (E : bE) (Q : bM → Prop) (v1 : Int) (v2 : Int) (v3 : Int) : (Int × Int × Int × Int × bM) → Prop := (fun t : Int × Int × Int × Int × bM => V l E xX12_show (0, 0) 12 [(0, bR 11), (1, bI v1), (2, bI v2), (3, bI v3), (4, bI (t.1)), (5, bI (t.2.1)), (6, bI (t.2.2.1)), (7, bI (t.2.2.2.1))] [] t.2.2.2.2 (b_pV Q))
abbrev X_X12_show_12 (l : Launch) (E : bE) (Q : bM → Prop) (v1 : Int) (v2 : Int) (v3 : Int) : (Int × Int × Int × bM) → Prop := (fun t : Int × Int × Int × bM => V l E xX12_show (0, 0) 183 [(0, bR 11), (1, bI v1), (2, bI v2), (4, bI (t.1)), (5, bI (t.2.1)), (6, bI (t.2.2.1))] [] t.2.2.2 (b_pV Q))
noncomputable def F_X12_show_b110 (v1 : Int) (v2 : Int) (v3 : Int) (v4 : Int) (v5 : Int) (v6 : Int) (v7 : Int) (v8 : Int) (v9 : Int) (M : bM) : Option ((Int × Int × Int × Int × bM) ⊕ (Int × Int × Int × bM)) :=
  b_bind (F_X12_ruleOn v3 7 M) (fun x15 => b_bind (F_X12_sumFor v1 v2 v9 x15 M) (fun t => b_two t (fun x16 M17 => b_bind (F_X12_ruleOn v3 0 M17) (fun x18 => if x16 < x18 then (b_g (b_i32 (v7 + 1)) (some (.inl (v4, v5, v6, (v7 + 1), M17)))) else (if x16 ≤ 0 then (b_g (b_i32 (v7 + 1)) (some (.inl (v4, v5, v6, (v7 + 1), M17)))) else (if v4 ≤ x16 then (if x16 = v4 then (b_g (b_i32 (v7 + 1)) (some (.inl (v4, v5, 0, (v7 + 1), M17)))) else (b_g (b_i32 (v7 + 1)) (some (.inl (x16, v8, 1, (v7 + 1), M17))))) else (b_g (b_i32 (v7 + 1)) (some (.inl (v4, v5, v6, (v7 + 1), M17))))))))))
theorem t_X12_show_b110 {l : Launch} {E : bE} {Q : bM → Prop} {v1 : Int} {v2 : Int} {v3 : Int} {v4 : Int} {v5 : Int} {v6 : Int} {v7 : Int} {v8 : Int} {v9 : Int} {M : bM} (h : b_wp (F_X12_show_b110 v1 v2 v3 v4 v5 v6 v7 v8 v9 M) (Sum.elim (A_X12_show_12 l E Q v1 v2 v3) (X_X12_show_12 l E Q v1 v2 v3))) : V l E xX12_show (0, 0) 110 [(0, bR 11), (1, bI v1), (2, bI v2), (3, bI v3), (4, bI v4), (5, bI v5), (6, bI v6), (7, bI v7), (8, bI v8), (9, bI v9)] [] M (b_pV Q) := by
  unfold F_X12_show_b110 at h
  refine v_aload_n (f := 0) 0 rfl dX12_show_110 ?_
  refine v_iload_n (f := 1) 1 rfl dX12_show_111 ?_
  refine v_iload_n (f := 2) 2 rfl dX12_show_112 ?_
  refine v_iload (i := 9) 9 rfl dX12_show_113 ?_
  refine v_aload_n (f := 0) 0 rfl dX12_show_115 ?_
  refine v_iload_n (f := 3) 3 rfl dX12_show_116 ?_
  refine v_bipush ⟨by decide, by decide⟩ (by decide) dX12_show_117 ?_
  refine v_cVIp (nA := 2) (As := [bI _, bI _]) (ix := 493) (cf_X12_ruleOn (b_wp_b h)) rfl kd_11 rfl rfl wc_X12_ruleOn wm_12_493 wi_X12_ruleOn ws_X12_ruleOn wn_12 ⟨by decide, by decide, by decide⟩ rfl ⟨by decide, by decide⟩ ⟨by decide, by decide⟩ (Nat.le_of_ble_eq_true rfl) dX12_show_119 (fun x15 h => ?_)
  refine v_cVI (nA := 4) (As := [bI _, bI _, bI _, bI _]) (ix := 526) (cf_X12_sumFor (b_wp_b h)) rfl kd_11 rfl rfl wc_X12_sumFor wm_12_526 wi_X12_sumFor ws_X12_sumFor wn_12 ⟨by decide, by decide, by decide⟩ rfl ⟨by decide, by decide⟩ ⟨by decide, by decide⟩ (Nat.le_of_ble_eq_true rfl) dX12_show_122 (fun x16 M17 h => ?_)
  replace h := b_wp_two h
  refine v_istore (i := 10) (ls' := [(10, bI _), (0, bR _), (1, bI _), (2, bI _), (3, bI _), (4, bI _), (5, bI _), (6, bI _), (7, bI _), (8, bI _), (9, bI _)]) (by decide) dX12_show_125 rfl ?_
  refine v_iload (i := 10) 0 rfl dX12_show_127 ?_
  refine v_aload_n (f := 0) 1 rfl dX12_show_129 ?_
  refine v_iload_n (f := 3) 4 rfl dX12_show_130 ?_
  refine v_iconst ⟨by decide, by decide⟩ dX12_show_131 ?_
  refine v_cVIp (nA := 2) (As := [bI _, bI _]) (ix := 493) (cf_X12_ruleOn (b_wp_b h)) rfl kd_11 rfl rfl wc_X12_ruleOn wm_12_493 wi_X12_ruleOn ws_X12_ruleOn wn_12 ⟨by decide, by decide, by decide⟩ rfl ⟨by decide, by decide⟩ ⟨by decide, by decide⟩ (Nat.le_of_ble_eq_true rfl) dX12_show_132 (fun x18 h => ?_)
  refine v_icmp_lt (tgt := 177) dX12_show_135 (by decide) (fun c19 => ?_) (fun c19 => ?_)
  · replace h := b_wp_t c19 h
    obtain ⟨g20, h⟩ := b_wp_g h
    refine v_iincN (ls' := [(7, bI _), (10, bI _), (0, bR _), (1, bI _), (2, bI _), (3, bI _), (4, bI _), (5, bI _), (6, bI _), (8, bI _), (9, bI _)]) 8 rfl (by decide) g20 dX12_show_177 rfl ?_
    refine v_goto (tgt := 12) dX12_show_180 (by decide) ?_
    refine v_sub (ls2 := [(0, bR _), (1, bI _), (2, bI _), (3, bI _), (4, bI _), (5, bI _), (6, bI _), (7, bI _)]) [2, 3, 4, 5, 6, 7, 8, 0] rfl ?_
    exact h
  · replace h := b_wp_f c19 h
    refine v_iload (i := 10) 0 rfl dX12_show_138 ?_
    refine v_if_le (tgt := 177) dX12_show_140 (by decide) (fun c21 => ?_) (fun c21 => ?_)
    · replace h := b_wp_t c21 h
      obtain ⟨g22, h⟩ := b_wp_g h
      refine v_iincN (ls' := [(7, bI _), (10, bI _), (0, bR _), (1, bI _), (2, bI _), (3, bI _), (4, bI _), (5, bI _), (6, bI _), (8, bI _), (9, bI _)]) 8 rfl (by decide) g22 dX12_show_177 rfl ?_
      refine v_goto (tgt := 12) dX12_show_180 (by decide) ?_
      refine v_sub (ls2 := [(0, bR _), (1, bI _), (2, bI _), (3, bI _), (4, bI _), (5, bI _), (6, bI _), (7, bI _)]) [2, 3, 4, 5, 6, 7, 8, 0] rfl ?_
      exact h
    · replace h := b_wp_f c21 h
      refine v_iload (i := 10) 0 rfl dX12_show_143 ?_
      refine v_iload (i := 4) 5 rfl dX12_show_145 ?_
      refine v_icmp_ge (tgt := 153) dX12_show_147 (by decide) (fun c23 => ?_) (fun c23 => ?_)
      · replace h := b_wp_t c23 h
        refine v_iload (i := 10) 0 rfl dX12_show_153 ?_
        refine v_iload (i := 4) 5 rfl dX12_show_155 ?_
        refine v_icmp_ne (tgt := 166) dX12_show_157 (by decide) (fun c24 => ?_) (fun c24 => ?_)
        · replace h := b_wp_f c24 h
          obtain ⟨g25, h⟩ := b_wp_g h
          refine v_iload (i := 10) 0 rfl dX12_show_166 ?_
          refine v_istore (i := 4) (ls' := [(4, bI _), (10, bI _), (0, bR _), (1, bI _), (2, bI _), (3, bI _), (5, bI _), (6, bI _), (7, bI _), (8, bI _), (9, bI _)]) (by decide) dX12_show_168 rfl ?_
          refine v_iload (i := 8) 9 rfl dX12_show_170 ?_
          refine v_istore (i := 5) (ls' := [(5, bI _), (4, bI _), (10, bI _), (0, bR _), (1, bI _), (2, bI _), (3, bI _), (6, bI _), (7, bI _), (8, bI _), (9, bI _)]) (by decide) dX12_show_172 rfl ?_
          refine v_iconst ⟨by decide, by decide⟩ dX12_show_174 ?_
          refine v_istore (i := 6) (ls' := [(6, bI _), (5, bI _), (4, bI _), (10, bI _), (0, bR _), (1, bI _), (2, bI _), (3, bI _), (7, bI _), (8, bI _), (9, bI _)]) (by decide) dX12_show_175 rfl ?_
          refine v_iincN (ls' := [(7, bI _), (6, bI _), (5, bI _), (4, bI _), (10, bI _), (0, bR _), (1, bI _), (2, bI _), (3, bI _), (8, bI _), (9, bI _)]) 8 rfl (by decide) g25 dX12_show_177 rfl ?_
          refine v_goto (tgt := 12) dX12_show_180 (by decide) ?_
          refine v_sub (ls2 := [(0, bR _), (1, bI _), (2, bI _), (3, bI _), (4, bI _), (5, bI _), (6, bI _), (7, bI _)]) [5, 6, 7, 8, 3, 2, 1, 0] rfl ?_
          exact h
        · replace h := b_wp_t c24 h
          obtain ⟨g26, h⟩ := b_wp_g h
          refine v_iconst ⟨by decide, by decide⟩ dX12_show_160 ?_
          refine v_istore (i := 6) (ls' := [(6, bI _), (10, bI _), (0, bR _), (1, bI _), (2, bI _), (3, bI _), (4, bI _), (5, bI _), (7, bI _), (8, bI _), (9, bI _)]) (by decide) dX12_show_161 rfl ?_
          refine v_goto (tgt := 177) dX12_show_163 (by decide) ?_
          refine v_iincN (ls' := [(7, bI _), (6, bI _), (10, bI _), (0, bR _), (1, bI _), (2, bI _), (3, bI _), (4, bI _), (5, bI _), (8, bI _), (9, bI _)]) 8 rfl (by decide) g26 dX12_show_177 rfl ?_
          refine v_goto (tgt := 12) dX12_show_180 (by decide) ?_
          refine v_sub (ls2 := [(0, bR _), (1, bI _), (2, bI _), (3, bI _), (4, bI _), (5, bI _), (6, bI _), (7, bI _)]) [3, 4, 5, 6, 7, 8, 1, 0] rfl ?_
          exact h
      · replace h := b_wp_f c23 h
        obtain ⟨g27, h⟩ := b_wp_g h
        refine v_goto (tgt := 177) dX12_show_150 (by decide) ?_
        refine v_iincN (ls' := [(7, bI _), (10, bI _), (0, bR _), (1, bI _), (2, bI _), (3, bI _), (4, bI _), (5, bI _), (6, bI _), (8, bI _), (9, bI _)]) 8 rfl (by decide) g27 dX12_show_177 rfl ?_
        refine v_goto (tgt := 12) dX12_show_180 (by decide) ?_
        refine v_sub (ls2 := [(0, bR _), (1, bI _), (2, bI _), (3, bI _), (4, bI _), (5, bI _), (6, bI _), (7, bI _)]) [2, 3, 4, 5, 6, 7, 8, 0] rfl ?_
        exact h
noncomputable def F_X12_show_s12 (v1 : Int) (v2 : Int) (v3 : Int) (v4 : Int) (v5 : Int) (v6 : Int) (v7 : Int) (M : bM) : Option ((Int × Int × Int × Int × bM) ⊕ (Int × Int × Int × bM)) :=
  if (M 11 53) ≤ v7 then (some (.inr (v4, v5, v6, M))) else (b_g ((b_i32 (3 * v7)) ∧ (b_i32 ((3 * v7) + v2)) ∧ (0 ≤ ((3 * v7) + v2) ∧ ((3 * v7) + v2) < 360)) (b_let ((M 196 ((3 * v7) + v2))) (fun y5 => b_g (0 ≤ v7 ∧ v7 < 120) (if (M 214 v7) = 0 then (b_g (b_i32 (v7 + 1)) (some (.inl (v4, v5, v6, (v7 + 1), M)))) else (b_g (0 ≤ v7 ∧ v7 < 120) (if (M 195 v7) = v1 then (if y5 = (-1) then (b_g (b_i32 (v7 + 1)) (some (.inl (v4, v5, v6, (v7 + 1), M)))) else (b_bind (F_X12_classOf v2 y5 M) (fun x13 => if v5 = (-1) then (F_X12_show_b110 v1 v2 v3 v4 v5 v6 v7 y5 x13 M) else (b_bind (F_X12_classOf v2 v5 M) (fun x28 => if x28 = x13 then (if v5 ≤ y5 then (b_g (b_i32 (v7 + 1)) (some (.inl (v4, v5, v6, (v7 + 1), M)))) else (b_g (b_i32 (v7 + 1)) (some (.inl (v4, y5, v6, (v7 + 1), M))))) else (F_X12_show_b110 v1 v2 v3 v4 v5 v6 v7 y5 x13 M)))))) else (b_g (b_i32 (v7 + 1)) (some (.inl (v4, v5, v6, (v7 + 1), M))))))))))
theorem t_X12_show_s12 {l : Launch} {E : bE} {Q : bM → Prop} {v1 : Int} {v2 : Int} {v3 : Int} {v4 : Int} {v5 : Int} {v6 : Int} {v7 : Int} {M : bM} (h : b_wp (F_X12_show_s12 v1 v2 v3 v4 v5 v6 v7 M) (Sum.elim (A_X12_show_12 l E Q v1 v2 v3) (X_X12_show_12 l E Q v1 v2 v3))) : V l E xX12_show (0, 0) 12 [(0, bR 11), (1, bI v1), (2, bI v2), (3, bI v3), (4, bI v4), (5, bI v5), (6, bI v6), (7, bI v7)] [] M (b_pV Q) := by
  unfold F_X12_show_s12 at h
  refine v_iload (i := 7) 7 rfl dX12_show_12 ?_
  refine v_aload_n (f := 0) 0 rfl dX12_show_14 ?_
  refine v_getI (kf := 53) (kz := 53) rfl kd_11 rfl ⟨by decide, by decide⟩ rfl wf_12_502 dX12_show_15 ?_
  refine v_icmp_ge (tgt := 183) dX12_show_18 (by decide) (fun c1 => ?_) (fun c1 => ?_)
  · replace h := b_wp_t c1 h
    refine v_sub (ls2 := [(0, bR _), (1, bI _), (2, bI _), (4, bI _), (5, bI _), (6, bI _)]) [0, 1, 2, 4, 5, 6] rfl ?_
    exact h
  · replace h := b_wp_f c1 h
    obtain ⟨⟨g2, g3, g4⟩, h⟩ := b_wp_g h
    refine v_aload_n (f := 0) 0 rfl dX12_show_21 ?_
    refine v_getR (kf := 57) (kz := 57) rfl kd_11 rfl ⟨by decide, by decide⟩ rfl wf_12_121 dX12_show_22 ?_
    refine v_iconst ⟨by decide, by decide⟩ dX12_show_25 ?_
    refine v_iload (i := 7) 7 rfl dX12_show_26 ?_
    refine v_imulN g2 dX12_show_28 ?_
    refine v_iload_n (f := 2) 2 rfl dX12_show_29 ?_
    refine v_iaddN g3 dX12_show_30 ?_
    refine v_iaload kd_196 g4 (by decide) dX12_show_31 ?_
    replace h := b_wp_l h
    obtain ⟨g6, h⟩ := b_wp_g h
    refine v_istore (i := 8) (ls' := [(8, bI _), (0, bR _), (1, bI _), (2, bI _), (3, bI _), (4, bI _), (5, bI _), (6, bI _), (7, bI _)]) (by decide) dX12_show_32 rfl ?_
    refine v_aload_n (f := 0) 1 rfl dX12_show_34 ?_
    refine v_getR (kf := 75) (kz := 75) rfl kd_11 rfl ⟨by decide, by decide⟩ rfl wf_12_176 dX12_show_35 ?_
    refine v_iload (i := 7) 8 rfl dX12_show_38 ?_
    refine v_zaload kd_214 g6 (by decide) dX12_show_40 ?_
    refine v_if_eq (tgt := 177) dX12_show_41 (by decide) (fun c7 => ?_) (fun c7 => ?_)
    · replace h := b_wp_t c7 h
      obtain ⟨g8, h⟩ := b_wp_g h
      refine v_iincN (ls' := [(7, bI _), (8, bI _), (0, bR _), (1, bI _), (2, bI _), (3, bI _), (4, bI _), (5, bI _), (6, bI _)]) 8 rfl (by decide) g8 dX12_show_177 rfl ?_
      refine v_goto (tgt := 12) dX12_show_180 (by decide) ?_
      refine v_sub (ls2 := [(0, bR _), (1, bI _), (2, bI _), (3, bI _), (4, bI _), (5, bI _), (6, bI _), (7, bI _)]) [2, 3, 4, 5, 6, 7, 8, 0] rfl ?_
      exact h
    · replace h := b_wp_f c7 h
      obtain ⟨g9, h⟩ := b_wp_g h
      refine v_aload_n (f := 0) 1 rfl dX12_show_44 ?_
      refine v_getR (kf := 56) (kz := 56) rfl kd_11 rfl ⟨by decide, by decide⟩ rfl wf_12_118 dX12_show_45 ?_
      refine v_iload (i := 7) 8 rfl dX12_show_48 ?_
      refine v_iaload kd_195 g9 (by decide) dX12_show_50 ?_
      refine v_iload_n (f := 1) 2 rfl dX12_show_51 ?_
      refine v_icmp_ne (tgt := 177) dX12_show_52 (by decide) (fun c10 => ?_) (fun c10 => ?_)
      · replace h := b_wp_f c10 h
        obtain ⟨g11, h⟩ := b_wp_g h
        refine v_iincN (ls' := [(7, bI _), (8, bI _), (0, bR _), (1, bI _), (2, bI _), (3, bI _), (4, bI _), (5, bI _), (6, bI _)]) 8 rfl (by decide) g11 dX12_show_177 rfl ?_
        refine v_goto (tgt := 12) dX12_show_180 (by decide) ?_
        refine v_sub (ls2 := [(0, bR _), (1, bI _), (2, bI _), (3, bI _), (4, bI _), (5, bI _), (6, bI _), (7, bI _)]) [2, 3, 4, 5, 6, 7, 8, 0] rfl ?_
        exact h
      · replace h := b_wp_t c10 h
        refine v_iload (i := 8) 0 rfl dX12_show_55 ?_
        refine v_iconst ⟨by decide, by decide⟩ dX12_show_57 ?_
        refine v_icmp_ne (tgt := 64) dX12_show_58 (by decide) (fun c12 => ?_) (fun c12 => ?_)
        · replace h := b_wp_f c12 h
          refine v_aload_n (f := 0) 1 rfl dX12_show_64 ?_
          refine v_iload_n (f := 2) 3 rfl dX12_show_65 ?_
          refine v_iload (i := 8) 0 rfl dX12_show_66 ?_
          refine v_cVIp (nA := 2) (As := [bI _, bI _]) (ix := 523) (cf_X12_classOf (b_wp_b h)) rfl kd_11 rfl rfl wc_X12_classOf wm_12_523 wi_X12_classOf ws_X12_classOf wn_12 ⟨by decide, by decide, by decide⟩ rfl ⟨by decide, by decide⟩ ⟨by decide, by decide⟩ (Nat.le_of_ble_eq_true rfl) dX12_show_68 (fun x13 h => ?_)
          refine v_istore (i := 9) (ls' := [(9, bI _), (8, bI _), (0, bR _), (1, bI _), (2, bI _), (3, bI _), (4, bI _), (5, bI _), (6, bI _), (7, bI _)]) (by decide) dX12_show_71 rfl ?_
          refine v_iload (i := 5) 7 rfl dX12_show_73 ?_
          refine v_iconst ⟨by decide, by decide⟩ dX12_show_75 ?_
          refine v_icmp_eq (tgt := 110) dX12_show_76 (by decide) (fun c14 => ?_) (fun c14 => ?_)
          · replace h := b_wp_t c14 h
            refine v_sub (ls2 := [(0, bR _), (1, bI _), (2, bI _), (3, bI _), (4, bI _), (5, bI _), (6, bI _), (7, bI _), (8, bI _), (9, bI _)]) [2, 3, 4, 5, 6, 7, 8, 9, 1, 0] rfl ?_
            exact t_X12_show_b110 h
          · replace h := b_wp_f c14 h
            refine v_aload_n (f := 0) 2 rfl dX12_show_79 ?_
            refine v_iload_n (f := 2) 4 rfl dX12_show_80 ?_
            refine v_iload (i := 5) 7 rfl dX12_show_81 ?_
            refine v_cVIp (nA := 2) (As := [bI _, bI _]) (ix := 523) (cf_X12_classOf (b_wp_b h)) rfl kd_11 rfl rfl wc_X12_classOf wm_12_523 wi_X12_classOf ws_X12_classOf wn_12 ⟨by decide, by decide, by decide⟩ rfl ⟨by decide, by decide⟩ ⟨by decide, by decide⟩ (Nat.le_of_ble_eq_true rfl) dX12_show_83 (fun x28 h => ?_)
            refine v_iload (i := 9) 0 rfl dX12_show_86 ?_
            refine v_icmp_ne (tgt := 110) dX12_show_88 (by decide) (fun c29 => ?_) (fun c29 => ?_)
            · replace h := b_wp_f c29 h
              refine v_sub (ls2 := [(0, bR _), (1, bI _), (2, bI _), (3, bI _), (4, bI _), (5, bI _), (6, bI _), (7, bI _), (8, bI _), (9, bI _)]) [2, 3, 4, 5, 6, 7, 8, 9, 1, 0] rfl ?_
              exact t_X12_show_b110 h
            · replace h := b_wp_t c29 h
              refine v_iload (i := 8) 1 rfl dX12_show_91 ?_
              refine v_iload (i := 5) 7 rfl dX12_show_93 ?_
              refine v_icmp_ge (tgt := 103) dX12_show_95 (by decide) (fun c30 => ?_) (fun c30 => ?_)
              · replace h := b_wp_t c30 h
                obtain ⟨g31, h⟩ := b_wp_g h
                refine v_iload (i := 5) 7 rfl dX12_show_103 ?_
                refine v_istore (i := 5) (ls' := [(5, bI _), (9, bI _), (8, bI _), (0, bR _), (1, bI _), (2, bI _), (3, bI _), (4, bI _), (6, bI _), (7, bI _)]) (by decide) dX12_show_105 rfl ?_
                refine v_goto (tgt := 177) dX12_show_107 (by decide) ?_
                refine v_iincN (ls' := [(7, bI _), (5, bI _), (9, bI _), (8, bI _), (0, bR _), (1, bI _), (2, bI _), (3, bI _), (4, bI _), (6, bI _)]) 9 rfl (by decide) g31 dX12_show_177 rfl ?_
                refine v_goto (tgt := 12) dX12_show_180 (by decide) ?_
                refine v_sub (ls2 := [(0, bR _), (1, bI _), (2, bI _), (3, bI _), (4, bI _), (5, bI _), (6, bI _), (7, bI _)]) [4, 5, 6, 7, 8, 1, 9, 0] rfl ?_
                exact h
              · replace h := b_wp_f c30 h
                obtain ⟨g32, h⟩ := b_wp_g h
                refine v_iload (i := 8) 1 rfl dX12_show_98 ?_
                refine v_goto (tgt := 105) dX12_show_100 (by decide) ?_
                refine v_istore (i := 5) (ls' := [(5, bI _), (9, bI _), (8, bI _), (0, bR _), (1, bI _), (2, bI _), (3, bI _), (4, bI _), (6, bI _), (7, bI _)]) (by decide) dX12_show_105 rfl ?_
                refine v_goto (tgt := 177) dX12_show_107 (by decide) ?_
                refine v_iincN (ls' := [(7, bI _), (5, bI _), (9, bI _), (8, bI _), (0, bR _), (1, bI _), (2, bI _), (3, bI _), (4, bI _), (6, bI _)]) 9 rfl (by decide) g32 dX12_show_177 rfl ?_
                refine v_goto (tgt := 12) dX12_show_180 (by decide) ?_
                refine v_sub (ls2 := [(0, bR _), (1, bI _), (2, bI _), (3, bI _), (4, bI _), (5, bI _), (6, bI _), (7, bI _)]) [4, 5, 6, 7, 8, 1, 9, 0] rfl ?_
                exact h
        · replace h := b_wp_t c12 h
          obtain ⟨g33, h⟩ := b_wp_g h
          refine v_goto (tgt := 177) dX12_show_61 (by decide) ?_
          refine v_iincN (ls' := [(7, bI _), (8, bI _), (0, bR _), (1, bI _), (2, bI _), (3, bI _), (4, bI _), (5, bI _), (6, bI _)]) 8 rfl (by decide) g33 dX12_show_177 rfl ?_
          refine v_goto (tgt := 12) dX12_show_180 (by decide) ?_
          refine v_sub (ls2 := [(0, bR _), (1, bI _), (2, bI _), (3, bI _), (4, bI _), (5, bI _), (6, bI _), (7, bI _)]) [2, 3, 4, 5, 6, 7, 8, 0] rfl ?_
          exact h
theorem l_X12_show_12 {l : Launch} {E : bE} {Q : bM → Prop} {v1 : Int} {v2 : Int} {v3 : Int} {s : Int × Int × Int × Int × bM} (h : b_wp (b_loop (fun t => F_X12_show_s12 v1 v2 v3 t.1 t.2.1 t.2.2.1 t.2.2.2.1 t.2.2.2.2) s) (X_X12_show_12 l E Q v1 v2 v3)) : A_X12_show_12 l E Q v1 v2 v3 s := b_loop_wp (fun t h => t_X12_show_s12 h) s h
abbrev A_X12_show_204 (l : Launch) (E : bE) (Q : bM → Prop) (v1 : Int) (v2 : Int) (v4 : Int) (v6 : Int) (v7 : Int) (M : bM) : (Int × Int) → Prop := (fun t : Int × Int => V l E xX12_show (0, 0) 204 [(0, bR 11), (1, bI v1), (2, bI v2), (4, bI v4), (5, bI (t.1)), (6, bI v6), (7, bI v7), (8, bI (t.2))] [] M (b_pV Q))
abbrev X_X12_show_204 (l : Launch) (E : bE) (Q : bM → Prop) (v1 : Int) (v2 : Int) (v4 : Int) (v6 : Int) (v7 : Int) (M : bM) : (Int) → Prop := (fun t : Int => V l E xX12_show (0, 0) 292 [(0, bR 11), (1, bI v1), (2, bI v2), (4, bI v4), (5, bI t), (6, bI v6), (7, bI v7)] [] M (b_pV Q))
noncomputable def F_X12_show_s204 (v1 : Int) (v2 : Int) (v4 : Int) (v5 : Int) (v6 : Int) (v7 : Int) (v8 : Int) (M : bM) : Option ((Int × Int) ⊕ (Int)) :=
  if (M 11 53) ≤ v8 then (some (.inr (v5))) else (if v7 = 0 then (some (.inr (v5))) else (b_g ((b_i32 (3 * v8)) ∧ (b_i32 ((3 * v8) + v2)) ∧ (0 ≤ ((3 * v8) + v2) ∧ ((3 * v8) + v2) < 360)) (b_let ((M 196 ((3 * v8) + v2))) (fun y40 => b_g (0 ≤ v8 ∧ v8 < 120) (if (M 214 v8) = 0 then (b_g (b_i32 (v8 + 1)) (some (.inl (v5, (v8 + 1))))) else (b_g (0 ≤ v8 ∧ v8 < 120) (if (M 195 v8) = v1 then (if y40 = (-1) then (b_g (b_i32 (v8 + 1)) (some (.inl (v5, (v8 + 1))))) else (b_bind (F_X12_classOf v2 y40 M) (fun x49 => b_bind (F_X12_classOf v2 v5 M) (fun x50 => if x49 = x50 then (if v5 ≤ y40 then (b_g (b_i32 (v8 + 1)) (some (.inl (v5, (v8 + 1))))) else (b_g (b_i32 (v8 + 1)) (some (.inl (y40, (v8 + 1)))))) else (b_g (b_i32 (v8 + 1)) (some (.inl (v5, (v8 + 1))))))))) else (b_g (b_i32 (v8 + 1)) (some (.inl (v5, (v8 + 1))))))))))))
theorem t_X12_show_s204 {l : Launch} {E : bE} {Q : bM → Prop} {v1 : Int} {v2 : Int} {v4 : Int} {v5 : Int} {v6 : Int} {v7 : Int} {v8 : Int} {M : bM} (h : b_wp (F_X12_show_s204 v1 v2 v4 v5 v6 v7 v8 M) (Sum.elim (A_X12_show_204 l E Q v1 v2 v4 v6 v7 M) (X_X12_show_204 l E Q v1 v2 v4 v6 v7 M))) : V l E xX12_show (0, 0) 204 [(0, bR 11), (1, bI v1), (2, bI v2), (4, bI v4), (5, bI v5), (6, bI v6), (7, bI v7), (8, bI v8)] [] M (b_pV Q) := by
  unfold F_X12_show_s204 at h
  refine v_iload (i := 8) 7 rfl dX12_show_204 ?_
  refine v_aload_n (f := 0) 0 rfl dX12_show_206 ?_
  refine v_getI (kf := 53) (kz := 53) rfl kd_11 rfl ⟨by decide, by decide⟩ rfl wf_12_502 dX12_show_207 ?_
  refine v_icmp_ge (tgt := 292) dX12_show_210 (by decide) (fun c35 => ?_) (fun c35 => ?_)
  · replace h := b_wp_t c35 h
    refine v_sub (ls2 := [(0, bR _), (1, bI _), (2, bI _), (4, bI _), (5, bI _), (6, bI _), (7, bI _)]) [0, 1, 2, 3, 4, 5, 6] rfl ?_
    exact h
  · replace h := b_wp_f c35 h
    refine v_iload (i := 7) 6 rfl dX12_show_213 ?_
    refine v_if_eq (tgt := 292) dX12_show_215 (by decide) (fun c36 => ?_) (fun c36 => ?_)
    · replace h := b_wp_t c36 h
      refine v_sub (ls2 := [(0, bR _), (1, bI _), (2, bI _), (4, bI _), (5, bI _), (6, bI _), (7, bI _)]) [0, 1, 2, 3, 4, 5, 6] rfl ?_
      exact h
    · replace h := b_wp_f c36 h
      obtain ⟨⟨g37, g38, g39⟩, h⟩ := b_wp_g h
      refine v_aload_n (f := 0) 0 rfl dX12_show_218 ?_
      refine v_getR (kf := 57) (kz := 57) rfl kd_11 rfl ⟨by decide, by decide⟩ rfl wf_12_121 dX12_show_219 ?_
      refine v_iconst ⟨by decide, by decide⟩ dX12_show_222 ?_
      refine v_iload (i := 8) 7 rfl dX12_show_223 ?_
      refine v_imulN g37 dX12_show_225 ?_
      refine v_iload_n (f := 2) 2 rfl dX12_show_226 ?_
      refine v_iaddN g38 dX12_show_227 ?_
      refine v_iaload kd_196 g39 (by decide) dX12_show_228 ?_
      replace h := b_wp_l h
      obtain ⟨g41, h⟩ := b_wp_g h
      refine v_istore (i := 9) (ls' := [(9, bI _), (0, bR _), (1, bI _), (2, bI _), (4, bI _), (5, bI _), (6, bI _), (7, bI _), (8, bI _)]) (by decide) dX12_show_229 rfl ?_
      refine v_aload_n (f := 0) 1 rfl dX12_show_231 ?_
      refine v_getR (kf := 75) (kz := 75) rfl kd_11 rfl ⟨by decide, by decide⟩ rfl wf_12_176 dX12_show_232 ?_
      refine v_iload (i := 8) 8 rfl dX12_show_235 ?_
      refine v_zaload kd_214 g41 (by decide) dX12_show_237 ?_
      refine v_if_eq (tgt := 286) dX12_show_238 (by decide) (fun c42 => ?_) (fun c42 => ?_)
      · replace h := b_wp_t c42 h
        obtain ⟨g43, h⟩ := b_wp_g h
        refine v_iincN (ls' := [(8, bI _), (9, bI _), (0, bR _), (1, bI _), (2, bI _), (4, bI _), (5, bI _), (6, bI _), (7, bI _)]) 8 rfl (by decide) g43 dX12_show_286 rfl ?_
        refine v_goto (tgt := 204) dX12_show_289 (by decide) ?_
        refine v_sub (ls2 := [(0, bR _), (1, bI _), (2, bI _), (4, bI _), (5, bI _), (6, bI _), (7, bI _), (8, bI _)]) [2, 3, 4, 5, 6, 7, 8, 0] rfl ?_
        exact h
      · replace h := b_wp_f c42 h
        obtain ⟨g44, h⟩ := b_wp_g h
        refine v_aload_n (f := 0) 1 rfl dX12_show_241 ?_
        refine v_getR (kf := 56) (kz := 56) rfl kd_11 rfl ⟨by decide, by decide⟩ rfl wf_12_118 dX12_show_242 ?_
        refine v_iload (i := 8) 8 rfl dX12_show_245 ?_
        refine v_iaload kd_195 g44 (by decide) dX12_show_247 ?_
        refine v_iload_n (f := 1) 2 rfl dX12_show_248 ?_
        refine v_icmp_ne (tgt := 286) dX12_show_249 (by decide) (fun c45 => ?_) (fun c45 => ?_)
        · replace h := b_wp_f c45 h
          obtain ⟨g46, h⟩ := b_wp_g h
          refine v_iincN (ls' := [(8, bI _), (9, bI _), (0, bR _), (1, bI _), (2, bI _), (4, bI _), (5, bI _), (6, bI _), (7, bI _)]) 8 rfl (by decide) g46 dX12_show_286 rfl ?_
          refine v_goto (tgt := 204) dX12_show_289 (by decide) ?_
          refine v_sub (ls2 := [(0, bR _), (1, bI _), (2, bI _), (4, bI _), (5, bI _), (6, bI _), (7, bI _), (8, bI _)]) [2, 3, 4, 5, 6, 7, 8, 0] rfl ?_
          exact h
        · replace h := b_wp_t c45 h
          refine v_iload (i := 9) 0 rfl dX12_show_252 ?_
          refine v_iconst ⟨by decide, by decide⟩ dX12_show_254 ?_
          refine v_icmp_eq (tgt := 286) dX12_show_255 (by decide) (fun c47 => ?_) (fun c47 => ?_)
          · replace h := b_wp_t c47 h
            obtain ⟨g48, h⟩ := b_wp_g h
            refine v_iincN (ls' := [(8, bI _), (9, bI _), (0, bR _), (1, bI _), (2, bI _), (4, bI _), (5, bI _), (6, bI _), (7, bI _)]) 8 rfl (by decide) g48 dX12_show_286 rfl ?_
            refine v_goto (tgt := 204) dX12_show_289 (by decide) ?_
            refine v_sub (ls2 := [(0, bR _), (1, bI _), (2, bI _), (4, bI _), (5, bI _), (6, bI _), (7, bI _), (8, bI _)]) [2, 3, 4, 5, 6, 7, 8, 0] rfl ?_
            exact h
          · replace h := b_wp_f c47 h
            refine v_aload_n (f := 0) 1 rfl dX12_show_258 ?_
            refine v_iload_n (f := 2) 3 rfl dX12_show_259 ?_
            refine v_iload (i := 9) 0 rfl dX12_show_260 ?_
            refine v_cVIp (nA := 2) (As := [bI _, bI _]) (ix := 523) (cf_X12_classOf (b_wp_b h)) rfl kd_11 rfl rfl wc_X12_classOf wm_12_523 wi_X12_classOf ws_X12_classOf wn_12 ⟨by decide, by decide, by decide⟩ rfl ⟨by decide, by decide⟩ ⟨by decide, by decide⟩ (Nat.le_of_ble_eq_true rfl) dX12_show_262 (fun x49 h => ?_)
            refine v_aload_n (f := 0) 1 rfl dX12_show_265 ?_
            refine v_iload_n (f := 2) 3 rfl dX12_show_266 ?_
            refine v_iload (i := 5) 5 rfl dX12_show_267 ?_
            refine v_cVIp (nA := 2) (As := [bI _, bI _]) (ix := 523) (cf_X12_classOf (b_wp_b h)) rfl kd_11 rfl rfl wc_X12_classOf wm_12_523 wi_X12_classOf ws_X12_classOf wn_12 ⟨by decide, by decide, by decide⟩ rfl ⟨by decide, by decide⟩ ⟨by decide, by decide⟩ (Nat.le_of_ble_eq_true rfl) dX12_show_269 (fun x50 h => ?_)
            refine v_icmp_ne (tgt := 286) dX12_show_272 (by decide) (fun c51 => ?_) (fun c51 => ?_)
            · replace h := b_wp_f c51 h
              obtain ⟨g52, h⟩ := b_wp_g h
              refine v_iincN (ls' := [(8, bI _), (9, bI _), (0, bR _), (1, bI _), (2, bI _), (4, bI _), (5, bI _), (6, bI _), (7, bI _)]) 8 rfl (by decide) g52 dX12_show_286 rfl ?_
              refine v_goto (tgt := 204) dX12_show_289 (by decide) ?_
              refine v_sub (ls2 := [(0, bR _), (1, bI _), (2, bI _), (4, bI _), (5, bI _), (6, bI _), (7, bI _), (8, bI _)]) [2, 3, 4, 5, 6, 7, 8, 0] rfl ?_
              exact h
            · replace h := b_wp_t c51 h
              refine v_iload (i := 9) 0 rfl dX12_show_275 ?_
              refine v_iload (i := 5) 5 rfl dX12_show_277 ?_
              refine v_icmp_ge (tgt := 286) dX12_show_279 (by decide) (fun c53 => ?_) (fun c53 => ?_)
              · replace h := b_wp_t c53 h
                obtain ⟨g54, h⟩ := b_wp_g h
                refine v_iincN (ls' := [(8, bI _), (9, bI _), (0, bR _), (1, bI _), (2, bI _), (4, bI _), (5, bI _), (6, bI _), (7, bI _)]) 8 rfl (by decide) g54 dX12_show_286 rfl ?_
                refine v_goto (tgt := 204) dX12_show_289 (by decide) ?_
                refine v_sub (ls2 := [(0, bR _), (1, bI _), (2, bI _), (4, bI _), (5, bI _), (6, bI _), (7, bI _), (8, bI _)]) [2, 3, 4, 5, 6, 7, 8, 0] rfl ?_
                exact h
              · replace h := b_wp_f c53 h
                obtain ⟨g55, h⟩ := b_wp_g h
                refine v_iload (i := 9) 0 rfl dX12_show_282 ?_
                refine v_istore (i := 5) (ls' := [(5, bI _), (9, bI _), (0, bR _), (1, bI _), (2, bI _), (4, bI _), (6, bI _), (7, bI _), (8, bI _)]) (by decide) dX12_show_284 rfl ?_
                refine v_iincN (ls' := [(8, bI _), (5, bI _), (9, bI _), (0, bR _), (1, bI _), (2, bI _), (4, bI _), (6, bI _), (7, bI _)]) 8 rfl (by decide) g55 dX12_show_286 rfl ?_
                refine v_goto (tgt := 204) dX12_show_289 (by decide) ?_
                refine v_sub (ls2 := [(0, bR _), (1, bI _), (2, bI _), (4, bI _), (5, bI _), (6, bI _), (7, bI _), (8, bI _)]) [3, 4, 5, 6, 1, 7, 8, 0] rfl ?_
                exact h
theorem l_X12_show_204 {l : Launch} {E : bE} {Q : bM → Prop} {v1 : Int} {v2 : Int} {v4 : Int} {v6 : Int} {v7 : Int} {M : bM} {s : Int × Int} (h : b_wp (b_loop (fun t => F_X12_show_s204 v1 v2 v4 t.1 v6 v7 t.2 M) s) (X_X12_show_204 l E Q v1 v2 v4 v6 v7 M)) : A_X12_show_204 l E Q v1 v2 v4 v6 v7 M s := b_loop_wp (fun t h => t_X12_show_s204 h) s h
noncomputable def F_X12_show_b333 (v1 : Int) (v2 : Int) (v5 : Int) (v6 : Int) (u1 : Int) (u2 : Int) (M : bM) : Option (bM) :=
  b_g (0 ≤ u1 ∧ u1 < 90) (b_let (b_up M 210 u1 u2) (fun M65 => if v5 = (-1) then (some M65) else (if v6 = 0 then (b_g (0 ≤ v1 ∧ v1 < 30) (b_let (b_up M65 213 v1 (i_or (M65 213 v1) (i_shl 1 v2))) (fun M69 => some M69))) else (some M65))))
theorem t_X12_show_b333 {l : Launch} {E : bE} {Q : bM → Prop} {v1 : Int} {v2 : Int} {v5 : Int} {v6 : Int} {u1 : Int} {u2 : Int} {M : bM} (h : b_wp (F_X12_show_b333 v1 v2 v5 v6 u1 u2 M) (Q)) : V l E xX12_show (0, 0) 333 [(0, bR 11), (1, bI v1), (2, bI v2), (5, bI v5), (6, bI v6)] [bI u2, bI u1, bR 210] M (b_pV Q) := by
  unfold F_X12_show_b333 at h
  obtain ⟨g64, h⟩ := b_wp_g h
  refine v_iastore kd_210 g64 (by decide) dX12_show_333 ?_
  replace h := b_wp_l h
  refine v_iload (i := 5) 3 rfl dX12_show_334 ?_
  refine v_iconst ⟨by decide, by decide⟩ dX12_show_336 ?_
  refine v_icmp_eq (tgt := 357) dX12_show_337 (by decide) (fun c66 => ?_) (fun c66 => ?_)
  · replace h := b_wp_t c66 h
    refine v_return rfl dX12_show_357 ⟨by decide, by decide⟩ ?_
    exact ⟨rfl, h⟩
  · replace h := b_wp_f c66 h
    refine v_iload (i := 6) 4 rfl dX12_show_340 ?_
    refine v_if_ne (tgt := 357) dX12_show_342 (by decide) (fun c67 => ?_) (fun c67 => ?_)
    · replace h := b_wp_f c67 h
      refine v_return rfl dX12_show_357 ⟨by decide, by decide⟩ ?_
      exact ⟨rfl, h⟩
    · replace h := b_wp_t c67 h
      obtain ⟨g68, h⟩ := b_wp_g h
      refine v_aload_n (f := 0) 0 rfl dX12_show_345 ?_
      refine v_getR (kf := 74) (kz := 74) rfl kd_11 rfl ⟨by decide, by decide⟩ rfl wf_12_173 dX12_show_346 ?_
      refine v_iload_n (f := 1) 1 rfl dX12_show_349 ?_
      refine v_dup2 rfl rfl dX12_show_350 ?_
      refine v_iaload kd_213 g68 (by decide) dX12_show_351 ?_
      refine v_iconst ⟨by decide, by decide⟩ dX12_show_352 ?_
      refine v_iload_n (f := 2) 2 rfl dX12_show_353 ?_
      refine v_ishl (v := i_shl _ _) rfl dX12_show_354 ?_
      refine v_ior (v := i_or _ _) rfl dX12_show_355 ?_
      refine v_iastore kd_213 g68 (by decide) dX12_show_356 ?_
      replace h := b_wp_l h
      refine v_return rfl dX12_show_357 ⟨by decide, by decide⟩ ?_
      exact ⟨rfl, h⟩
noncomputable def F_X12_show_b312 (v1 : Int) (v2 : Int) (v4 : Int) (v5 : Int) (v6 : Int) (v7 : Int) (u1 : Int) (u2 : Int) (M : bM) : Option (bM) :=
  b_g (0 ≤ u1 ∧ u1 < 90) (b_let (b_up M 209 u1 u2) (fun M60 => b_g ((b_i32 (3 * v1)) ∧ (b_i32 ((3 * v1) + v2))) (if v7 = 0 then (F_X12_show_b333 v1 v2 v5 v6 ((3 * v1) + v2) 0 M60) else (F_X12_show_b333 v1 v2 v5 v6 ((3 * v1) + v2) v4 M60))))
theorem t_X12_show_b312 {l : Launch} {E : bE} {Q : bM → Prop} {v1 : Int} {v2 : Int} {v4 : Int} {v5 : Int} {v6 : Int} {v7 : Int} {u1 : Int} {u2 : Int} {M : bM} (h : b_wp (F_X12_show_b312 v1 v2 v4 v5 v6 v7 u1 u2 M) (Q)) : V l E xX12_show (0, 0) 312 [(0, bR 11), (1, bI v1), (2, bI v2), (4, bI v4), (5, bI v5), (6, bI v6), (7, bI v7)] [bI u2, bI u1, bR 209] M (b_pV Q) := by
  unfold F_X12_show_b312 at h
  obtain ⟨g59, h⟩ := b_wp_g h
  refine v_iastore kd_209 g59 (by decide) dX12_show_312 ?_
  replace h := b_wp_l h
  obtain ⟨⟨g61, g62⟩, h⟩ := b_wp_g h
  refine v_aload_n (f := 0) 0 rfl dX12_show_313 ?_
  refine v_getR (kf := 71) (kz := 71) rfl kd_11 rfl ⟨by decide, by decide⟩ rfl wf_12_164 dX12_show_314 ?_
  refine v_iconst ⟨by decide, by decide⟩ dX12_show_317 ?_
  refine v_iload_n (f := 1) 1 rfl dX12_show_318 ?_
  refine v_imulN g61 dX12_show_319 ?_
  refine v_iload_n (f := 2) 2 rfl dX12_show_320 ?_
  refine v_iaddN g62 dX12_show_321 ?_
  refine v_iload (i := 7) 6 rfl dX12_show_322 ?_
  refine v_if_eq (tgt := 332) dX12_show_324 (by decide) (fun c63 => ?_) (fun c63 => ?_)
  · replace h := b_wp_t c63 h
    refine v_iconst ⟨by decide, by decide⟩ dX12_show_332 ?_
    refine v_sub (ls2 := [(0, bR _), (1, bI _), (2, bI _), (5, bI _), (6, bI _)]) [0, 1, 2, 4, 5] rfl ?_
    exact t_X12_show_b333 h
  · replace h := b_wp_f c63 h
    refine v_iload (i := 4) 3 rfl dX12_show_327 ?_
    refine v_goto (tgt := 333) dX12_show_329 (by decide) ?_
    refine v_sub (ls2 := [(0, bR _), (1, bI _), (2, bI _), (5, bI _), (6, bI _)]) [0, 1, 2, 4, 5] rfl ?_
    exact t_X12_show_b333 h
noncomputable def F_X12_show_b292 (v1 : Int) (v2 : Int) (v4 : Int) (v5 : Int) (v6 : Int) (v7 : Int) (M : bM) : Option (bM) :=
  b_g ((b_i32 (3 * v1)) ∧ (b_i32 ((3 * v1) + v2))) (if v7 = 0 then (F_X12_show_b312 v1 v2 v4 v5 v6 v7 ((3 * v1) + v2) (-1) M) else (F_X12_show_b312 v1 v2 v4 v5 v6 v7 ((3 * v1) + v2) v5 M))
theorem t_X12_show_b292 {l : Launch} {E : bE} {Q : bM → Prop} {v1 : Int} {v2 : Int} {v4 : Int} {v5 : Int} {v6 : Int} {v7 : Int} {M : bM} (h : b_wp (F_X12_show_b292 v1 v2 v4 v5 v6 v7 M) (Q)) : V l E xX12_show (0, 0) 292 [(0, bR 11), (1, bI v1), (2, bI v2), (4, bI v4), (5, bI v5), (6, bI v6), (7, bI v7)] [] M (b_pV Q) := by
  unfold F_X12_show_b292 at h
  obtain ⟨⟨g56, g57⟩, h⟩ := b_wp_g h
  refine v_aload_n (f := 0) 0 rfl dX12_show_292 ?_
  refine v_getR (kf := 70) (kz := 70) rfl kd_11 rfl ⟨by decide, by decide⟩ rfl wf_12_161 dX12_show_293 ?_
  refine v_iconst ⟨by decide, by decide⟩ dX12_show_296 ?_
  refine v_iload_n (f := 1) 1 rfl dX12_show_297 ?_
  refine v_imulN g56 dX12_show_298 ?_
  refine v_iload_n (f := 2) 2 rfl dX12_show_299 ?_
  refine v_iaddN g57 dX12_show_300 ?_
  refine v_iload (i := 7) 6 rfl dX12_show_301 ?_
  refine v_if_eq (tgt := 311) dX12_show_303 (by decide) (fun c58 => ?_) (fun c58 => ?_)
  · replace h := b_wp_t c58 h
    refine v_iconst ⟨by decide, by decide⟩ dX12_show_311 ?_
    exact t_X12_show_b312 h
  · replace h := b_wp_f c58 h
    refine v_iload (i := 5) 4 rfl dX12_show_306 ?_
    refine v_goto (tgt := 312) dX12_show_308 (by decide) ?_
    exact t_X12_show_b312 h
noncomputable def F_X12_show_b199 (v1 : Int) (v2 : Int) (v4 : Int) (v5 : Int) (v6 : Int) (u0 : Int) (M : bM) : Option (bM) :=
  b_bind (b_loop (fun t => F_X12_show_s204 v1 v2 v4 t.1 v6 u0 t.2 M) (v5, 0)) (fun t => F_X12_show_b292 v1 v2 v4 t v6 u0 M)
theorem t_X12_show_b199 {l : Launch} {E : bE} {Q : bM → Prop} {v1 : Int} {v2 : Int} {v4 : Int} {v5 : Int} {v6 : Int} {u0 : Int} {M : bM} (h : b_wp (F_X12_show_b199 v1 v2 v4 v5 v6 u0 M) (Q)) : V l E xX12_show (0, 0) 199 [(0, bR 11), (1, bI v1), (2, bI v2), (4, bI v4), (5, bI v5), (6, bI v6)] [bI u0] M (b_pV Q) := by
  unfold F_X12_show_b199 at h
  refine v_istore (i := 7) (ls' := [(7, bI _), (0, bR _), (1, bI _), (2, bI _), (4, bI _), (5, bI _), (6, bI _)]) (by decide) dX12_show_199 rfl ?_
  refine v_iconst ⟨by decide, by decide⟩ dX12_show_201 ?_
  refine v_istore (i := 8) (ls' := [(8, bI _), (7, bI _), (0, bR _), (1, bI _), (2, bI _), (4, bI _), (5, bI _), (6, bI _)]) (by decide) dX12_show_202 rfl ?_
  refine v_sub (ls2 := [(0, bR _), (1, bI _), (2, bI _), (4, bI _), (5, bI _), (6, bI _), (7, bI _), (8, bI _)]) [2, 3, 4, 5, 6, 7, 1, 0] rfl ?_
  refine l_X12_show_204 (b_wp_m (fun t h => ?_) (b_wp_b h))
  show V l E xX12_show (0, 0) 292 [(0, bR 11), (1, bI _), (2, bI _), (4, bI _), (5, bI _), (6, bI _), (7, bI _)] [] _ (b_pV Q)
  exact t_X12_show_b292 h
noncomputable def F_X12_show_b198 (v1 : Int) (v2 : Int) (v4 : Int) (v5 : Int) (v6 : Int) (M : bM) : Option (bM) :=
  F_X12_show_b199 v1 v2 v4 v5 v6 0 M
theorem t_X12_show_b198 {l : Launch} {E : bE} {Q : bM → Prop} {v1 : Int} {v2 : Int} {v4 : Int} {v5 : Int} {v6 : Int} {M : bM} (h : b_wp (F_X12_show_b198 v1 v2 v4 v5 v6 M) (Q)) : V l E xX12_show (0, 0) 198 [(0, bR 11), (1, bI v1), (2, bI v2), (4, bI v4), (5, bI v5), (6, bI v6)] [] M (b_pV Q) := by
  unfold F_X12_show_b198 at h
  refine v_iconst ⟨by decide, by decide⟩ dX12_show_198 ?_
  exact t_X12_show_b199 h
noncomputable def F_X12_show_b183 (v1 : Int) (v2 : Int) (v4 : Int) (v5 : Int) (v6 : Int) (M : bM) : Option (bM) :=
  if v5 = (-1) then (F_X12_show_b198 v1 v2 v4 v5 v6 M) else (if v6 = 0 then (F_X12_show_b198 v1 v2 v4 v5 v6 M) else (F_X12_show_b199 v1 v2 v4 v5 v6 1 M))
theorem t_X12_show_b183 {l : Launch} {E : bE} {Q : bM → Prop} {v1 : Int} {v2 : Int} {v4 : Int} {v5 : Int} {v6 : Int} {M : bM} (h : b_wp (F_X12_show_b183 v1 v2 v4 v5 v6 M) (Q)) : V l E xX12_show (0, 0) 183 [(0, bR 11), (1, bI v1), (2, bI v2), (4, bI v4), (5, bI v5), (6, bI v6)] [] M (b_pV Q) := by
  unfold F_X12_show_b183 at h
  refine v_iload (i := 5) 4 rfl dX12_show_183 ?_
  refine v_iconst ⟨by decide, by decide⟩ dX12_show_185 ?_
  refine v_icmp_eq (tgt := 198) dX12_show_186 (by decide) (fun c34 => ?_) (fun c34 => ?_)
  · replace h := b_wp_t c34 h
    exact t_X12_show_b198 h
  · replace h := b_wp_f c34 h
    refine v_iload (i := 6) 5 rfl dX12_show_189 ?_
    refine v_if_eq (tgt := 198) dX12_show_191 (by decide) (fun c70 => ?_) (fun c70 => ?_)
    · replace h := b_wp_t c70 h
      exact t_X12_show_b198 h
    · replace h := b_wp_f c70 h
      refine v_iconst ⟨by decide, by decide⟩ dX12_show_194 ?_
      refine v_goto (tgt := 199) dX12_show_195 (by decide) ?_
      exact t_X12_show_b199 h
noncomputable def F_X12_show (v1 : Int) (v2 : Int) (v3 : Int) (M : bM) : Option (bM) :=
  b_bind (b_loop (fun t => F_X12_show_s12 v1 v2 v3 t.1 t.2.1 t.2.2.1 t.2.2.2.1 t.2.2.2.2) (0, (-1), 1, 0, M)) (fun t => F_X12_show_b183 v1 v2 (t.1) (t.2.1) (t.2.2.1) (t.2.2.2))
theorem t_X12_show {l : Launch} {E : bE} {Q : bM → Prop} {v1 : Int} {v2 : Int} {v3 : Int} {M : bM} (h : b_wp (F_X12_show v1 v2 v3 M) (Q)) : V l E xX12_show (0, 0) 0 [(0, bR 11), (1, bI v1), (2, bI v2), (3, bI v3)] [] M (b_pV Q) := by
  unfold F_X12_show at h
  refine v_iconst ⟨by decide, by decide⟩ dX12_show_0 ?_
  refine v_istore (i := 4) (ls' := [(4, bI _), (0, bR _), (1, bI _), (2, bI _), (3, bI _)]) (by decide) dX12_show_1 rfl ?_
  refine v_iconst ⟨by decide, by decide⟩ dX12_show_3 ?_
  refine v_istore (i := 5) (ls' := [(5, bI _), (4, bI _), (0, bR _), (1, bI _), (2, bI _), (3, bI _)]) (by decide) dX12_show_4 rfl ?_
  refine v_iconst ⟨by decide, by decide⟩ dX12_show_6 ?_
  refine v_istore (i := 6) (ls' := [(6, bI _), (5, bI _), (4, bI _), (0, bR _), (1, bI _), (2, bI _), (3, bI _)]) (by decide) dX12_show_7 rfl ?_
  refine v_iconst ⟨by decide, by decide⟩ dX12_show_9 ?_
  refine v_istore (i := 7) (ls' := [(7, bI _), (6, bI _), (5, bI _), (4, bI _), (0, bR _), (1, bI _), (2, bI _), (3, bI _)]) (by decide) dX12_show_10 rfl ?_
  refine v_sub (ls2 := [(0, bR _), (1, bI _), (2, bI _), (3, bI _), (4, bI _), (5, bI _), (6, bI _), (7, bI _)]) [4, 5, 6, 7, 3, 2, 1, 0] rfl ?_
  refine l_X12_show_12 (b_wp_m (fun t h => ?_) (b_wp_b h))
  show V l E xX12_show (0, 0) 183 [(0, bR 11), (1, bI _), (2, bI _), (4, bI _), (5, bI _), (6, bI _)] [] _ (b_pV Q)
  exact t_X12_show_b183 h
theorem cf_X12_show {l : Launch} {E : bE} {M : bM} {v1 : Int} {v2 : Int} {v3 : Int} {Q : bM → Prop} (h : b_wp (F_X12_show v1 v2 v3 M) Q) : b_C l E xX12_show yX12_show [bR 11, bI v1, bI v2, bI v3] M (b_pV Q) := b_met (by decide) ⟨rfl, rfl⟩ (Nat.le_of_ble_eq_true rfl) (fun _ _ => t_X12_show h)
abbrev xX12_makeShown : bX := ("BurntHallModel", prog_14_method_87_code, 4, (Option.none : Option Jvm.ClassFile.FieldType), b_rm 4 0 0, 0, "makeShown")
abbrev yX12_makeShown : MethodName := ⟨"BurntHallModel", "makeShown", "(I)V"⟩
theorem dX12_makeShown_0 : decode prog_14_method_87_code 0 = .ok (.aload_n 0, 1) := by decide +kernel
theorem dX12_makeShown_1 : decode prog_14_method_87_code 1 = .ok (.iload_n 1, 1) := by decide +kernel
theorem dX12_makeShown_2 : decode prog_14_method_87_code 2 = .ok (.invokevirtual 367, 3) := by decide +kernel
theorem dX12_makeShown_5 : decode prog_14_method_87_code 5 = .ok (.iconst 0, 1) := by decide +kernel
theorem dX12_makeShown_6 : decode prog_14_method_87_code 6 = .ok (.istore_n 2, 1) := by decide +kernel
theorem dX12_makeShown_7 : decode prog_14_method_87_code 7 = .ok (.iload_n 2, 1) := by decide +kernel
theorem dX12_makeShown_8 : decode prog_14_method_87_code 8 = .ok (.aload_n 0, 1) := by decide +kernel
theorem dX12_makeShown_9 : decode prog_14_method_87_code 9 = .ok (.getfield 502, 3) := by decide +kernel
theorem dX12_makeShown_12 : decode prog_14_method_87_code 12 = .ok (.if_icmp .ge 51, 3) := by decide +kernel
theorem dX12_makeShown_15 : decode prog_14_method_87_code 15 = .ok (.aload_n 0, 1) := by decide +kernel
theorem dX12_makeShown_16 : decode prog_14_method_87_code 16 = .ok (.getfield 176, 3) := by decide +kernel
theorem dX12_makeShown_19 : decode prog_14_method_87_code 19 = .ok (.iload_n 2, 1) := by decide +kernel
theorem dX12_makeShown_20 : decode prog_14_method_87_code 20 = .ok (.aload_n 0, 1) := by decide +kernel
theorem dX12_makeShown_21 : decode prog_14_method_87_code 21 = .ok (.getfield 130, 3) := by decide +kernel
theorem dX12_makeShown_24 : decode prog_14_method_87_code 24 = .ok (.iload_n 2, 1) := by decide +kernel
theorem dX12_makeShown_25 : decode prog_14_method_87_code 25 = .ok (.iaload, 1) := by decide +kernel
theorem dX12_makeShown_26 : decode prog_14_method_87_code 26 = .ok (.iload_n 1, 1) := by decide +kernel
theorem dX12_makeShown_27 : decode prog_14_method_87_code 27 = .ok (.if_icmp .gt 16, 3) := by decide +kernel
theorem dX12_makeShown_30 : decode prog_14_method_87_code 30 = .ok (.aload_n 0, 1) := by decide +kernel
theorem dX12_makeShown_31 : decode prog_14_method_87_code 31 = .ok (.iload_n 2, 1) := by decide +kernel
theorem dX12_makeShown_32 : decode prog_14_method_87_code 32 = .ok (.iload_n 1, 1) := by decide +kernel
theorem dX12_makeShown_33 : decode prog_14_method_87_code 33 = .ok (.invokevirtual 520, 3) := by decide +kernel
theorem dX12_makeShown_36 : decode prog_14_method_87_code 36 = .ok (.ifCond .ne 7, 3) := by decide +kernel
theorem dX12_makeShown_39 : decode prog_14_method_87_code 39 = .ok (.iconst 1, 1) := by decide +kernel
theorem dX12_makeShown_40 : decode prog_14_method_87_code 40 = .ok (.goto 4, 3) := by decide +kernel
theorem dX12_makeShown_43 : decode prog_14_method_87_code 43 = .ok (.iconst 0, 1) := by decide +kernel
theorem dX12_makeShown_44 : decode prog_14_method_87_code 44 = .ok (.bastore, 1) := by decide +kernel
theorem dX12_makeShown_45 : decode prog_14_method_87_code 45 = .ok (.aload_n 0, 1) := by decide +kernel
theorem dX12_makeShown_46 : decode prog_14_method_87_code 46 = .ok (.getfield 179, 3) := by decide +kernel
theorem dX12_makeShown_49 : decode prog_14_method_87_code 49 = .ok (.iload_n 2, 1) := by decide +kernel
theorem dX12_makeShown_50 : decode prog_14_method_87_code 50 = .ok (.aload_n 0, 1) := by decide +kernel
theorem dX12_makeShown_51 : decode prog_14_method_87_code 51 = .ok (.iload_n 2, 1) := by decide +kernel
theorem dX12_makeShown_52 : decode prog_14_method_87_code 52 = .ok (.iload_n 1, 1) := by decide +kernel
theorem dX12_makeShown_53 : decode prog_14_method_87_code 53 = .ok (.invokevirtual 514, 3) := by decide +kernel
theorem dX12_makeShown_56 : decode prog_14_method_87_code 56 = .ok (.iastore, 1) := by decide +kernel
theorem dX12_makeShown_57 : decode prog_14_method_87_code 57 = .ok (.iinc 2 1, 3) := by decide +kernel
theorem dX12_makeShown_60 : decode prog_14_method_87_code 60 = .ok (.goto (-53), 3) := by decide +kernel
theorem dX12_makeShown_63 : decode prog_14_method_87_code 63 = .ok (.iconst 0, 1) := by decide +kernel
theorem dX12_makeShown_64 : decode prog_14_method_87_code 64 = .ok (.istore_n 2, 1) := by decide +kernel
theorem dX12_makeShown_65 : decode prog_14_method_87_code 65 = .ok (.iload_n 2, 1) := by decide +kernel
theorem dX12_makeShown_66 : decode prog_14_method_87_code 66 = .ok (.aload_n 0, 1) := by decide +kernel
theorem dX12_makeShown_67 : decode prog_14_method_87_code 67 = .ok (.getfield 496, 3) := by decide +kernel
theorem dX12_makeShown_70 : decode prog_14_method_87_code 70 = .ok (.if_icmp .ge 186, 3) := by decide +kernel
theorem dX12_makeShown_73 : decode prog_14_method_87_code 73 = .ok (.aload_n 0, 1) := by decide +kernel
theorem dX12_makeShown_74 : decode prog_14_method_87_code 74 = .ok (.getfield 173, 3) := by decide +kernel
theorem dX12_makeShown_77 : decode prog_14_method_87_code 77 = .ok (.iload_n 2, 1) := by decide +kernel
theorem dX12_makeShown_78 : decode prog_14_method_87_code 78 = .ok (.iconst 0, 1) := by decide +kernel
theorem dX12_makeShown_79 : decode prog_14_method_87_code 79 = .ok (.iastore, 1) := by decide +kernel
theorem dX12_makeShown_80 : decode prog_14_method_87_code 80 = .ok (.iconst 0, 1) := by decide +kernel
theorem dX12_makeShown_81 : decode prog_14_method_87_code 81 = .ok (.istore_n 3, 1) := by decide +kernel
theorem dX12_makeShown_82 : decode prog_14_method_87_code 82 = .ok (.iload_n 3, 1) := by decide +kernel
theorem dX12_makeShown_83 : decode prog_14_method_87_code 83 = .ok (.iconst 3, 1) := by decide +kernel
theorem dX12_makeShown_84 : decode prog_14_method_87_code 84 = .ok (.if_icmp .ge 16, 3) := by decide +kernel
theorem dX12_makeShown_87 : decode prog_14_method_87_code 87 = .ok (.aload_n 0, 1) := by decide +kernel
theorem dX12_makeShown_88 : decode prog_14_method_87_code 88 = .ok (.iload_n 2, 1) := by decide +kernel
theorem dX12_makeShown_89 : decode prog_14_method_87_code 89 = .ok (.iload_n 3, 1) := by decide +kernel
theorem dX12_makeShown_90 : decode prog_14_method_87_code 90 = .ok (.iload_n 1, 1) := by decide +kernel
theorem dX12_makeShown_91 : decode prog_14_method_87_code 91 = .ok (.invokevirtual 530, 3) := by decide +kernel
theorem dX12_makeShown_94 : decode prog_14_method_87_code 94 = .ok (.iinc 3 1, 3) := by decide +kernel
theorem dX12_makeShown_97 : decode prog_14_method_87_code 97 = .ok (.goto (-15), 3) := by decide +kernel
theorem dX12_makeShown_100 : decode prog_14_method_87_code 100 = .ok (.aload_n 0, 1) := by decide +kernel
theorem dX12_makeShown_101 : decode prog_14_method_87_code 101 = .ok (.getfield 167, 3) := by decide +kernel
theorem dX12_makeShown_104 : decode prog_14_method_87_code 104 = .ok (.iload_n 2, 1) := by decide +kernel
theorem dX12_makeShown_105 : decode prog_14_method_87_code 105 = .ok (.iconst 0, 1) := by decide +kernel
theorem dX12_makeShown_106 : decode prog_14_method_87_code 106 = .ok (.iastore, 1) := by decide +kernel
theorem dX12_makeShown_107 : decode prog_14_method_87_code 107 = .ok (.aload_n 0, 1) := by decide +kernel
theorem dX12_makeShown_108 : decode prog_14_method_87_code 108 = .ok (.getfield 170, 3) := by decide +kernel
theorem dX12_makeShown_111 : decode prog_14_method_87_code 111 = .ok (.iload_n 2, 1) := by decide +kernel
theorem dX12_makeShown_112 : decode prog_14_method_87_code 112 = .ok (.sipush 9999, 3) := by decide +kernel
theorem dX12_makeShown_115 : decode prog_14_method_87_code 115 = .ok (.iastore, 1) := by decide +kernel
theorem dX12_makeShown_116 : decode prog_14_method_87_code 116 = .ok (.iconst 0, 1) := by decide +kernel
theorem dX12_makeShown_117 : decode prog_14_method_87_code 117 = .ok (.istore_n 3, 1) := by decide +kernel
theorem dX12_makeShown_118 : decode prog_14_method_87_code 118 = .ok (.iload_n 3, 1) := by decide +kernel
theorem dX12_makeShown_119 : decode prog_14_method_87_code 119 = .ok (.aload_n 0, 1) := by decide +kernel
theorem dX12_makeShown_120 : decode prog_14_method_87_code 120 = .ok (.getfield 502, 3) := by decide +kernel
theorem dX12_makeShown_123 : decode prog_14_method_87_code 123 = .ok (.if_icmp .ge 82, 3) := by decide +kernel
theorem dX12_makeShown_126 : decode prog_14_method_87_code 126 = .ok (.aload_n 0, 1) := by decide +kernel
theorem dX12_makeShown_127 : decode prog_14_method_87_code 127 = .ok (.getfield 176, 3) := by decide +kernel
theorem dX12_makeShown_130 : decode prog_14_method_87_code 130 = .ok (.iload_n 3, 1) := by decide +kernel
theorem dX12_makeShown_131 : decode prog_14_method_87_code 131 = .ok (.baload, 1) := by decide +kernel
theorem dX12_makeShown_132 : decode prog_14_method_87_code 132 = .ok (.ifCond .eq 67, 3) := by decide +kernel
theorem dX12_makeShown_135 : decode prog_14_method_87_code 135 = .ok (.aload_n 0, 1) := by decide +kernel
theorem dX12_makeShown_136 : decode prog_14_method_87_code 136 = .ok (.getfield 118, 3) := by decide +kernel
theorem dX12_makeShown_139 : decode prog_14_method_87_code 139 = .ok (.iload_n 3, 1) := by decide +kernel
theorem dX12_makeShown_140 : decode prog_14_method_87_code 140 = .ok (.iaload, 1) := by decide +kernel
theorem dX12_makeShown_141 : decode prog_14_method_87_code 141 = .ok (.iload_n 2, 1) := by decide +kernel
theorem dX12_makeShown_142 : decode prog_14_method_87_code 142 = .ok (.if_icmp .ne 57, 3) := by decide +kernel
theorem dX12_makeShown_145 : decode prog_14_method_87_code 145 = .ok (.aload_n 0, 1) := by decide +kernel
theorem dX12_makeShown_146 : decode prog_14_method_87_code 146 = .ok (.getfield 179, 3) := by decide +kernel
theorem dX12_makeShown_149 : decode prog_14_method_87_code 149 = .ok (.iload_n 3, 1) := by decide +kernel
theorem dX12_makeShown_150 : decode prog_14_method_87_code 150 = .ok (.iaload, 1) := by decide +kernel
theorem dX12_makeShown_151 : decode prog_14_method_87_code 151 = .ok (.ifCond .gt 6, 3) := by decide +kernel
theorem dX12_makeShown_154 : decode prog_14_method_87_code 154 = .ok (.goto 45, 3) := by decide +kernel
theorem dX12_makeShown_157 : decode prog_14_method_87_code 157 = .ok (.aload_n 0, 1) := by decide +kernel
theorem dX12_makeShown_158 : decode prog_14_method_87_code 158 = .ok (.getfield 167, 3) := by decide +kernel
theorem dX12_makeShown_161 : decode prog_14_method_87_code 161 = .ok (.iload_n 2, 1) := by decide +kernel
theorem dX12_makeShown_162 : decode prog_14_method_87_code 162 = .ok (.aload_n 0, 1) := by decide +kernel
theorem dX12_makeShown_163 : decode prog_14_method_87_code 163 = .ok (.getfield 167, 3) := by decide +kernel
theorem dX12_makeShown_166 : decode prog_14_method_87_code 166 = .ok (.iload_n 2, 1) := by decide +kernel
theorem dX12_makeShown_167 : decode prog_14_method_87_code 167 = .ok (.iaload, 1) := by decide +kernel
theorem dX12_makeShown_168 : decode prog_14_method_87_code 168 = .ok (.aload_n 0, 1) := by decide +kernel
theorem dX12_makeShown_169 : decode prog_14_method_87_code 169 = .ok (.getfield 124, 3) := by decide +kernel
theorem dX12_makeShown_172 : decode prog_14_method_87_code 172 = .ok (.iload_n 3, 1) := by decide +kernel
theorem dX12_makeShown_173 : decode prog_14_method_87_code 173 = .ok (.iaload, 1) := by decide +kernel
theorem dX12_makeShown_174 : decode prog_14_method_87_code 174 = .ok (.invokestatic 417, 3) := by decide +kernel
theorem dX12_makeShown_177 : decode prog_14_method_87_code 177 = .ok (.iastore, 1) := by decide +kernel
theorem dX12_makeShown_178 : decode prog_14_method_87_code 178 = .ok (.aload_n 0, 1) := by decide +kernel
theorem dX12_makeShown_179 : decode prog_14_method_87_code 179 = .ok (.getfield 170, 3) := by decide +kernel
theorem dX12_makeShown_182 : decode prog_14_method_87_code 182 = .ok (.iload_n 2, 1) := by decide +kernel
theorem dX12_makeShown_183 : decode prog_14_method_87_code 183 = .ok (.aload_n 0, 1) := by decide +kernel
theorem dX12_makeShown_184 : decode prog_14_method_87_code 184 = .ok (.getfield 170, 3) := by decide +kernel
theorem dX12_makeShown_187 : decode prog_14_method_87_code 187 = .ok (.iload_n 2, 1) := by decide +kernel
theorem dX12_makeShown_188 : decode prog_14_method_87_code 188 = .ok (.iaload, 1) := by decide +kernel
theorem dX12_makeShown_189 : decode prog_14_method_87_code 189 = .ok (.aload_n 0, 1) := by decide +kernel
theorem dX12_makeShown_190 : decode prog_14_method_87_code 190 = .ok (.getfield 127, 3) := by decide +kernel
theorem dX12_makeShown_193 : decode prog_14_method_87_code 193 = .ok (.iload_n 3, 1) := by decide +kernel
theorem dX12_makeShown_194 : decode prog_14_method_87_code 194 = .ok (.iaload, 1) := by decide +kernel
theorem dX12_makeShown_195 : decode prog_14_method_87_code 195 = .ok (.invokestatic 414, 3) := by decide +kernel
theorem dX12_makeShown_198 : decode prog_14_method_87_code 198 = .ok (.iastore, 1) := by decide +kernel
theorem dX12_makeShown_199 : decode prog_14_method_87_code 199 = .ok (.iinc 3 1, 3) := by decide +kernel
theorem dX12_makeShown_202 : decode prog_14_method_87_code 202 = .ok (.goto (-84), 3) := by decide +kernel
theorem dX12_makeShown_205 : decode prog_14_method_87_code 205 = .ok (.aload_n 0, 1) := by decide +kernel
theorem dX12_makeShown_206 : decode prog_14_method_87_code 206 = .ok (.getfield 167, 3) := by decide +kernel
theorem dX12_makeShown_209 : decode prog_14_method_87_code 209 = .ok (.iload_n 2, 1) := by decide +kernel
theorem dX12_makeShown_210 : decode prog_14_method_87_code 210 = .ok (.iaload, 1) := by decide +kernel
theorem dX12_makeShown_211 : decode prog_14_method_87_code 211 = .ok (.aload_n 0, 1) := by decide +kernel
theorem dX12_makeShown_212 : decode prog_14_method_87_code 212 = .ok (.getfield 170, 3) := by decide +kernel
theorem dX12_makeShown_215 : decode prog_14_method_87_code 215 = .ok (.iload_n 2, 1) := by decide +kernel
theorem dX12_makeShown_216 : decode prog_14_method_87_code 216 = .ok (.iaload, 1) := by decide +kernel
theorem dX12_makeShown_217 : decode prog_14_method_87_code 217 = .ok (.if_icmp .gt 6, 3) := by decide +kernel
theorem dX12_makeShown_220 : decode prog_14_method_87_code 220 = .ok (.goto 30, 3) := by decide +kernel
theorem dX12_makeShown_223 : decode prog_14_method_87_code 223 = .ok (.aload_n 0, 1) := by decide +kernel
theorem dX12_makeShown_224 : decode prog_14_method_87_code 224 = .ok (.getfield 167, 3) := by decide +kernel
theorem dX12_makeShown_227 : decode prog_14_method_87_code 227 = .ok (.iload_n 2, 1) := by decide +kernel
theorem dX12_makeShown_228 : decode prog_14_method_87_code 228 = .ok (.iconst 0, 1) := by decide +kernel
theorem dX12_makeShown_229 : decode prog_14_method_87_code 229 = .ok (.iastore, 1) := by decide +kernel
theorem dX12_makeShown_230 : decode prog_14_method_87_code 230 = .ok (.aload_n 0, 1) := by decide +kernel
theorem dX12_makeShown_231 : decode prog_14_method_87_code 231 = .ok (.getfield 170, 3) := by decide +kernel
theorem dX12_makeShown_234 : decode prog_14_method_87_code 234 = .ok (.iload_n 2, 1) := by decide +kernel
theorem dX12_makeShown_235 : decode prog_14_method_87_code 235 = .ok (.sipush 9999, 3) := by decide +kernel
theorem dX12_makeShown_238 : decode prog_14_method_87_code 238 = .ok (.iastore, 1) := by decide +kernel
theorem dX12_makeShown_239 : decode prog_14_method_87_code 239 = .ok (.aload_n 0, 1) := by decide +kernel
theorem dX12_makeShown_240 : decode prog_14_method_87_code 240 = .ok (.getfield 173, 3) := by decide +kernel
theorem dX12_makeShown_243 : decode prog_14_method_87_code 243 = .ok (.iload_n 2, 1) := by decide +kernel
theorem dX12_makeShown_244 : decode prog_14_method_87_code 244 = .ok (.dup2, 1) := by decide +kernel
theorem dX12_makeShown_245 : decode prog_14_method_87_code 245 = .ok (.iaload, 1) := by decide +kernel
theorem dX12_makeShown_246 : decode prog_14_method_87_code 246 = .ok (.bipush 8, 2) := by decide +kernel
theorem dX12_makeShown_248 : decode prog_14_method_87_code 248 = .ok (.ior, 1) := by decide +kernel
theorem dX12_makeShown_249 : decode prog_14_method_87_code 249 = .ok (.iastore, 1) := by decide +kernel
theorem dX12_makeShown_250 : decode prog_14_method_87_code 250 = .ok (.iinc 2 1, 3) := by decide +kernel
theorem dX12_makeShown_253 : decode prog_14_method_87_code 253 = .ok (.goto (-188), 3) := by decide +kernel
theorem dX12_makeShown_256 : decode prog_14_method_87_code 256 = .ok (.return_, 1) := by decide +kernel
abbrev A_X12_makeShown_7 (l : Launch) (E : bE) (Q : bM → Prop) (v1 : Int) : (Int × bM) → Prop := (fun t : Int × bM => V l E xX12_makeShown (0, 0) 7 [(0, bR 11), (1, bI v1), (2, bI (t.1))] [] t.2 (b_pV Q))
abbrev X_X12_makeShown_7 (l : Launch) (E : bE) (Q : bM → Prop) (v1 : Int) : (bM) → Prop := (fun t : bM => V l E xX12_makeShown (0, 0) 63 [(0, bR 11), (1, bI v1)] [] t (b_pV Q))
noncomputable def F_X12_makeShown_b44 (v1 : Int) (v2 : Int) (u1 : Int) (u2 : Int) (M : bM) : Option ((Int × bM) ⊕ (bM)) :=
  b_g ((0 ≤ u1 ∧ u1 < 120) ∧ (u2 = 0 ∨ u2 = 1)) (b_let (b_up M 214 u1 u2) (fun M7 => b_bind (F_X12_weightOf v2 v1 M7) (fun t => b_two t (fun x8 M9 => b_g (0 ≤ v2 ∧ v2 < 120) (b_let (b_up M9 215 v2 x8) (fun M11 => b_g (b_i32 (v2 + 1)) (some (.inl ((v2 + 1), M11)))))))))
theorem t_X12_makeShown_b44 {l : Launch} {E : bE} {Q : bM → Prop} {v1 : Int} {v2 : Int} {u1 : Int} {u2 : Int} {M : bM} (h : b_wp (F_X12_makeShown_b44 v1 v2 u1 u2 M) (Sum.elim (A_X12_makeShown_7 l E Q v1) (X_X12_makeShown_7 l E Q v1))) : V l E xX12_makeShown (0, 0) 44 [(0, bR 11), (1, bI v1), (2, bI v2)] [bI u2, bI u1, bR 214] M (b_pV Q) := by
  unfold F_X12_makeShown_b44 at h
  obtain ⟨⟨g5, g6⟩, h⟩ := b_wp_g h
  refine v_zastore kd_214 g5 (by decide) (b_narz g6) dX12_makeShown_44 ?_
  replace h := b_wp_l h
  refine v_aload_n (f := 0) 0 rfl dX12_makeShown_45 ?_
  refine v_getR (kf := 76) (kz := 76) rfl kd_11 rfl ⟨by decide, by decide⟩ rfl wf_12_179 dX12_makeShown_46 ?_
  refine v_iload_n (f := 2) 2 rfl dX12_makeShown_49 ?_
  refine v_aload_n (f := 0) 0 rfl dX12_makeShown_50 ?_
  refine v_iload_n (f := 2) 2 rfl dX12_makeShown_51 ?_
  refine v_iload_n (f := 1) 1 rfl dX12_makeShown_52 ?_
  refine v_cVI (nA := 2) (As := [bI _, bI _]) (ix := 514) (cf_X12_weightOf (b_wp_b h)) rfl kd_11 rfl rfl wc_X12_weightOf wm_12_514 wi_X12_weightOf ws_X12_weightOf wn_12 ⟨by decide, by decide, by decide⟩ rfl ⟨by decide, by decide⟩ ⟨by decide, by decide⟩ (Nat.le_of_ble_eq_true rfl) dX12_makeShown_53 (fun x8 M9 h => ?_)
  replace h := b_wp_two h
  obtain ⟨g10, h⟩ := b_wp_g h
  refine v_iastore kd_215 g10 (by decide) dX12_makeShown_56 ?_
  replace h := b_wp_l h
  obtain ⟨g12, h⟩ := b_wp_g h
  refine v_iincN (ls' := [(2, bI _), (0, bR _), (1, bI _)]) 2 rfl (by decide) g12 dX12_makeShown_57 rfl ?_
  refine v_goto (tgt := 7) dX12_makeShown_60 (by decide) ?_
  refine v_sub (ls2 := [(0, bR _), (1, bI _), (2, bI _)]) [1, 2, 0] rfl ?_
  exact h
noncomputable def F_X12_makeShown_b43 (v1 : Int) (v2 : Int) (u1 : Int) (M : bM) : Option ((Int × bM) ⊕ (bM)) :=
  F_X12_makeShown_b44 v1 v2 u1 0 M
theorem t_X12_makeShown_b43 {l : Launch} {E : bE} {Q : bM → Prop} {v1 : Int} {v2 : Int} {u1 : Int} {M : bM} (h : b_wp (F_X12_makeShown_b43 v1 v2 u1 M) (Sum.elim (A_X12_makeShown_7 l E Q v1) (X_X12_makeShown_7 l E Q v1))) : V l E xX12_makeShown (0, 0) 43 [(0, bR 11), (1, bI v1), (2, bI v2)] [bI u1, bR 214] M (b_pV Q) := by
  unfold F_X12_makeShown_b43 at h
  refine v_iconst ⟨by decide, by decide⟩ dX12_makeShown_43 ?_
  exact t_X12_makeShown_b44 h
noncomputable def F_X12_makeShown_s7 (v1 : Int) (v2 : Int) (M : bM) : Option ((Int × bM) ⊕ (bM)) :=
  if (M 11 53) ≤ v2 then (some (.inr (M))) else (b_g (0 ≤ v2 ∧ v2 < 120) (if v1 < (M 199 v2) then (F_X12_makeShown_b43 v1 v2 v2 M) else (b_bind (F_X12_cantOf v2 v1 M) (fun x13 => if x13 = 0 then (F_X12_makeShown_b44 v1 v2 v2 1 M) else (F_X12_makeShown_b43 v1 v2 v2 M)))))
theorem t_X12_makeShown_s7 {l : Launch} {E : bE} {Q : bM → Prop} {v1 : Int} {v2 : Int} {M : bM} (h : b_wp (F_X12_makeShown_s7 v1 v2 M) (Sum.elim (A_X12_makeShown_7 l E Q v1) (X_X12_makeShown_7 l E Q v1))) : V l E xX12_makeShown (0, 0) 7 [(0, bR 11), (1, bI v1), (2, bI v2)] [] M (b_pV Q) := by
  unfold F_X12_makeShown_s7 at h
  refine v_iload_n (f := 2) 2 rfl dX12_makeShown_7 ?_
  refine v_aload_n (f := 0) 0 rfl dX12_makeShown_8 ?_
  refine v_getI (kf := 53) (kz := 53) rfl kd_11 rfl ⟨by decide, by decide⟩ rfl wf_12_502 dX12_makeShown_9 ?_
  refine v_icmp_ge (tgt := 63) dX12_makeShown_12 (by decide) (fun c2 => ?_) (fun c2 => ?_)
  · replace h := b_wp_t c2 h
    refine v_sub (ls2 := [(0, bR _), (1, bI _)]) [0, 1] rfl ?_
    exact h
  · replace h := b_wp_f c2 h
    obtain ⟨g3, h⟩ := b_wp_g h
    refine v_aload_n (f := 0) 0 rfl dX12_makeShown_15 ?_
    refine v_getR (kf := 75) (kz := 75) rfl kd_11 rfl ⟨by decide, by decide⟩ rfl wf_12_176 dX12_makeShown_16 ?_
    refine v_iload_n (f := 2) 2 rfl dX12_makeShown_19 ?_
    refine v_aload_n (f := 0) 0 rfl dX12_makeShown_20 ?_
    refine v_getR (kf := 60) (kz := 60) rfl kd_11 rfl ⟨by decide, by decide⟩ rfl wf_12_130 dX12_makeShown_21 ?_
    refine v_iload_n (f := 2) 2 rfl dX12_makeShown_24 ?_
    refine v_iaload kd_199 g3 (by decide) dX12_makeShown_25 ?_
    refine v_iload_n (f := 1) 1 rfl dX12_makeShown_26 ?_
    refine v_icmp_gt (tgt := 43) dX12_makeShown_27 (by decide) (fun c4 => ?_) (fun c4 => ?_)
    · replace h := b_wp_t c4 h
      exact t_X12_makeShown_b43 h
    · replace h := b_wp_f c4 h
      refine v_aload_n (f := 0) 0 rfl dX12_makeShown_30 ?_
      refine v_iload_n (f := 2) 2 rfl dX12_makeShown_31 ?_
      refine v_iload_n (f := 1) 1 rfl dX12_makeShown_32 ?_
      refine v_cVIp (nA := 2) (As := [bI _, bI _]) (ix := 520) (cf_X12_cantOf (b_wp_b h)) rfl kd_11 rfl rfl wc_X12_cantOf wm_12_520 wi_X12_cantOf ws_X12_cantOf wn_12 ⟨by decide, by decide, by decide⟩ rfl ⟨by decide, by decide⟩ ⟨by decide, by decide⟩ (Nat.le_of_ble_eq_true rfl) dX12_makeShown_33 (fun x13 h => ?_)
      refine v_if_ne (tgt := 43) dX12_makeShown_36 (by decide) (fun c14 => ?_) (fun c14 => ?_)
      · replace h := b_wp_f c14 h
        exact t_X12_makeShown_b43 h
      · replace h := b_wp_t c14 h
        refine v_iconst ⟨by decide, by decide⟩ dX12_makeShown_39 ?_
        refine v_goto (tgt := 44) dX12_makeShown_40 (by decide) ?_
        exact t_X12_makeShown_b44 h
theorem l_X12_makeShown_7 {l : Launch} {E : bE} {Q : bM → Prop} {v1 : Int} {s : Int × bM} (h : b_wp (b_loop (fun t => F_X12_makeShown_s7 v1 t.1 t.2) s) (X_X12_makeShown_7 l E Q v1)) : A_X12_makeShown_7 l E Q v1 s := b_loop_wp (fun t h => t_X12_makeShown_s7 h) s h
abbrev A_X12_makeShown_65 (l : Launch) (E : bE) (Q : bM → Prop) (v1 : Int) : (Int × bM) → Prop := (fun t : Int × bM => V l E xX12_makeShown (0, 0) 65 [(0, bR 11), (1, bI v1), (2, bI (t.1))] [] t.2 (b_pV Q))
abbrev X_X12_makeShown_65 (l : Launch) (E : bE) (Q : bM → Prop) (v1 : Int) : (bM) → Prop := (fun t : bM => V l E xX12_makeShown (0, 0) 256 [] [] t (b_pV Q))
abbrev A_X12_makeShown_82 (l : Launch) (E : bE) (Q : bM → Prop) (v1 : Int) (v2 : Int) : (Int × bM) → Prop := (fun t : Int × bM => V l E xX12_makeShown (0, 0) 82 [(0, bR 11), (1, bI v1), (2, bI v2), (3, bI (t.1))] [] t.2 (b_pV Q))
abbrev X_X12_makeShown_82 (l : Launch) (E : bE) (Q : bM → Prop) (v1 : Int) (v2 : Int) : (bM) → Prop := (fun t : bM => V l E xX12_makeShown (0, 0) 100 [(0, bR 11), (1, bI v1), (2, bI v2)] [] t (b_pV Q))
noncomputable def F_X12_makeShown_s82 (v1 : Int) (v2 : Int) (v3 : Int) (M : bM) : Option ((Int × bM) ⊕ (bM)) :=
  if 3 ≤ v3 then (some (.inr (M))) else (b_bind (F_X12_show v2 v3 v1 M) (fun M19 => b_g (b_i32 (v3 + 1)) (some (.inl ((v3 + 1), M19)))))
theorem t_X12_makeShown_s82 {l : Launch} {E : bE} {Q : bM → Prop} {v1 : Int} {v2 : Int} {v3 : Int} {M : bM} (h : b_wp (F_X12_makeShown_s82 v1 v2 v3 M) (Sum.elim (A_X12_makeShown_82 l E Q v1 v2) (X_X12_makeShown_82 l E Q v1 v2))) : V l E xX12_makeShown (0, 0) 82 [(0, bR 11), (1, bI v1), (2, bI v2), (3, bI v3)] [] M (b_pV Q) := by
  unfold F_X12_makeShown_s82 at h
  refine v_iload_n (f := 3) 3 rfl dX12_makeShown_82 ?_
  refine v_iconst ⟨by decide, by decide⟩ dX12_makeShown_83 ?_
  refine v_icmp_ge (tgt := 100) dX12_makeShown_84 (by decide) (fun c18 => ?_) (fun c18 => ?_)
  · replace h := b_wp_t c18 h
    refine v_sub (ls2 := [(0, bR _), (1, bI _), (2, bI _)]) [0, 1, 2] rfl ?_
    exact h
  · replace h := b_wp_f c18 h
    refine v_aload_n (f := 0) 0 rfl dX12_makeShown_87 ?_
    refine v_iload_n (f := 2) 2 rfl dX12_makeShown_88 ?_
    refine v_iload_n (f := 3) 3 rfl dX12_makeShown_89 ?_
    refine v_iload_n (f := 1) 1 rfl dX12_makeShown_90 ?_
    refine v_cVV (nA := 3) (As := [bI _, bI _, bI _]) (ix := 530) (cf_X12_show (b_wp_b h)) rfl kd_11 rfl rfl wc_X12_show wm_12_530 wi_X12_show ws_X12_show wn_12 ⟨by decide, by decide, by decide⟩ rfl ⟨by decide, by decide⟩ ⟨by decide, by decide⟩ (Nat.le_of_ble_eq_true rfl) dX12_makeShown_91 (fun M19 h => ?_)
    obtain ⟨g20, h⟩ := b_wp_g h
    refine v_iincN (ls' := [(3, bI _), (0, bR _), (1, bI _), (2, bI _)]) 3 rfl (by decide) g20 dX12_makeShown_94 rfl ?_
    refine v_goto (tgt := 82) dX12_makeShown_97 (by decide) ?_
    refine v_sub (ls2 := [(0, bR _), (1, bI _), (2, bI _), (3, bI _)]) [1, 2, 3, 0] rfl ?_
    exact h
theorem l_X12_makeShown_82 {l : Launch} {E : bE} {Q : bM → Prop} {v1 : Int} {v2 : Int} {s : Int × bM} (h : b_wp (b_loop (fun t => F_X12_makeShown_s82 v1 v2 t.1 t.2) s) (X_X12_makeShown_82 l E Q v1 v2)) : A_X12_makeShown_82 l E Q v1 v2 s := b_loop_wp (fun t h => t_X12_makeShown_s82 h) s h
abbrev A_X12_makeShown_118 (l : Launch) (E : bE) (Q : bM → Prop) (v1 : Int) (v2 : Int) : (Int × bM) → Prop := (fun t : Int × bM => V l E xX12_makeShown (0, 0) 118 [(0, bR 11), (1, bI v1), (2, bI v2), (3, bI (t.1))] [] t.2 (b_pV Q))
abbrev X_X12_makeShown_118 (l : Launch) (E : bE) (Q : bM → Prop) (v1 : Int) (v2 : Int) : (bM) → Prop := (fun t : bM => V l E xX12_makeShown (0, 0) 205 [(0, bR 11), (1, bI v1), (2, bI v2)] [] t (b_pV Q))
noncomputable def F_X12_makeShown_s118 (v1 : Int) (v2 : Int) (v3 : Int) (M : bM) : Option ((Int × bM) ⊕ (bM)) :=
  if (M 11 53) ≤ v3 then (some (.inr (M))) else (b_g (0 ≤ v3 ∧ v3 < 120) (if (M 214 v3) = 0 then (b_g (b_i32 (v3 + 1)) (some (.inl ((v3 + 1), M)))) else (b_g (0 ≤ v3 ∧ v3 < 120) (if (M 195 v3) = v2 then (b_g (0 ≤ v3 ∧ v3 < 120) (if 0 < (M 215 v3) then (b_g ((0 ≤ v2 ∧ v2 < 30) ∧ (0 ≤ v3 ∧ v3 < 120)) (b_bind (F_X12_greater (M 211 v2) (M 197 v3) M) (fun x36 => b_g (0 ≤ v2 ∧ v2 < 30) (b_let (b_up M 211 v2 x36) (fun M38 => b_g ((0 ≤ v2 ∧ v2 < 30) ∧ (0 ≤ v3 ∧ v3 < 120)) (b_bind (F_X12_lesser (M38 212 v2) (M38 198 v3) M38) (fun x41 => b_g (0 ≤ v2 ∧ v2 < 30) (b_let (b_up M38 212 v2 x41) (fun M43 => b_g (b_i32 (v3 + 1)) (some (.inl ((v3 + 1), M43)))))))))))) else (b_g (b_i32 (v3 + 1)) (some (.inl ((v3 + 1), M)))))) else (b_g (b_i32 (v3 + 1)) (some (.inl ((v3 + 1), M))))))))
theorem t_X12_makeShown_s118 {l : Launch} {E : bE} {Q : bM → Prop} {v1 : Int} {v2 : Int} {v3 : Int} {M : bM} (h : b_wp (F_X12_makeShown_s118 v1 v2 v3 M) (Sum.elim (A_X12_makeShown_118 l E Q v1 v2) (X_X12_makeShown_118 l E Q v1 v2))) : V l E xX12_makeShown (0, 0) 118 [(0, bR 11), (1, bI v1), (2, bI v2), (3, bI v3)] [] M (b_pV Q) := by
  unfold F_X12_makeShown_s118 at h
  refine v_iload_n (f := 3) 3 rfl dX12_makeShown_118 ?_
  refine v_aload_n (f := 0) 0 rfl dX12_makeShown_119 ?_
  refine v_getI (kf := 53) (kz := 53) rfl kd_11 rfl ⟨by decide, by decide⟩ rfl wf_12_502 dX12_makeShown_120 ?_
  refine v_icmp_ge (tgt := 205) dX12_makeShown_123 (by decide) (fun c25 => ?_) (fun c25 => ?_)
  · replace h := b_wp_t c25 h
    refine v_sub (ls2 := [(0, bR _), (1, bI _), (2, bI _)]) [0, 1, 2] rfl ?_
    exact h
  · replace h := b_wp_f c25 h
    obtain ⟨g26, h⟩ := b_wp_g h
    refine v_aload_n (f := 0) 0 rfl dX12_makeShown_126 ?_
    refine v_getR (kf := 75) (kz := 75) rfl kd_11 rfl ⟨by decide, by decide⟩ rfl wf_12_176 dX12_makeShown_127 ?_
    refine v_iload_n (f := 3) 3 rfl dX12_makeShown_130 ?_
    refine v_zaload kd_214 g26 (by decide) dX12_makeShown_131 ?_
    refine v_if_eq (tgt := 199) dX12_makeShown_132 (by decide) (fun c27 => ?_) (fun c27 => ?_)
    · replace h := b_wp_t c27 h
      obtain ⟨g28, h⟩ := b_wp_g h
      refine v_iincN (ls' := [(3, bI _), (0, bR _), (1, bI _), (2, bI _)]) 3 rfl (by decide) g28 dX12_makeShown_199 rfl ?_
      refine v_goto (tgt := 118) dX12_makeShown_202 (by decide) ?_
      refine v_sub (ls2 := [(0, bR _), (1, bI _), (2, bI _), (3, bI _)]) [1, 2, 3, 0] rfl ?_
      exact h
    · replace h := b_wp_f c27 h
      obtain ⟨g29, h⟩ := b_wp_g h
      refine v_aload_n (f := 0) 0 rfl dX12_makeShown_135 ?_
      refine v_getR (kf := 56) (kz := 56) rfl kd_11 rfl ⟨by decide, by decide⟩ rfl wf_12_118 dX12_makeShown_136 ?_
      refine v_iload_n (f := 3) 3 rfl dX12_makeShown_139 ?_
      refine v_iaload kd_195 g29 (by decide) dX12_makeShown_140 ?_
      refine v_iload_n (f := 2) 2 rfl dX12_makeShown_141 ?_
      refine v_icmp_ne (tgt := 199) dX12_makeShown_142 (by decide) (fun c30 => ?_) (fun c30 => ?_)
      · replace h := b_wp_f c30 h
        obtain ⟨g31, h⟩ := b_wp_g h
        refine v_iincN (ls' := [(3, bI _), (0, bR _), (1, bI _), (2, bI _)]) 3 rfl (by decide) g31 dX12_makeShown_199 rfl ?_
        refine v_goto (tgt := 118) dX12_makeShown_202 (by decide) ?_
        refine v_sub (ls2 := [(0, bR _), (1, bI _), (2, bI _), (3, bI _)]) [1, 2, 3, 0] rfl ?_
        exact h
      · replace h := b_wp_t c30 h
        obtain ⟨g32, h⟩ := b_wp_g h
        refine v_aload_n (f := 0) 0 rfl dX12_makeShown_145 ?_
        refine v_getR (kf := 76) (kz := 76) rfl kd_11 rfl ⟨by decide, by decide⟩ rfl wf_12_179 dX12_makeShown_146 ?_
        refine v_iload_n (f := 3) 3 rfl dX12_makeShown_149 ?_
        refine v_iaload kd_215 g32 (by decide) dX12_makeShown_150 ?_
        refine v_if_gt (tgt := 157) dX12_makeShown_151 (by decide) (fun c33 => ?_) (fun c33 => ?_)
        · replace h := b_wp_t c33 h
          obtain ⟨⟨g34, g35⟩, h⟩ := b_wp_g h
          refine v_aload_n (f := 0) 0 rfl dX12_makeShown_157 ?_
          refine v_getR (kf := 72) (kz := 72) rfl kd_11 rfl ⟨by decide, by decide⟩ rfl wf_12_167 dX12_makeShown_158 ?_
          refine v_iload_n (f := 2) 2 rfl dX12_makeShown_161 ?_
          refine v_aload_n (f := 0) 0 rfl dX12_makeShown_162 ?_
          refine v_getR (kf := 72) (kz := 72) rfl kd_11 rfl ⟨by decide, by decide⟩ rfl wf_12_167 dX12_makeShown_163 ?_
          refine v_iload_n (f := 2) 2 rfl dX12_makeShown_166 ?_
          refine v_iaload kd_211 g34 (by decide) dX12_makeShown_167 ?_
          refine v_aload_n (f := 0) 0 rfl dX12_makeShown_168 ?_
          refine v_getR (kf := 58) (kz := 58) rfl kd_11 rfl ⟨by decide, by decide⟩ rfl wf_12_124 dX12_makeShown_169 ?_
          refine v_iload_n (f := 3) 3 rfl dX12_makeShown_172 ?_
          refine v_iaload kd_197 g35 (by decide) dX12_makeShown_173 ?_
          refine v_cSIp (nA := 2) (As := [bI _, bI _]) (ix := 417) (cf_X12_greater (b_wp_b h)) rfl wc_X12_greater wm_12_417 wi_X12_greater wn_12 ⟨by decide, by decide, by decide⟩ rfl ⟨by decide, by decide⟩ ⟨by decide, by decide⟩ (Nat.le_of_ble_eq_true rfl) dX12_makeShown_174 (fun x36 h => ?_)
          obtain ⟨g37, h⟩ := b_wp_g h
          refine v_iastore kd_211 g37 (by decide) dX12_makeShown_177 ?_
          replace h := b_wp_l h
          obtain ⟨⟨g39, g40⟩, h⟩ := b_wp_g h
          refine v_aload_n (f := 0) 0 rfl dX12_makeShown_178 ?_
          refine v_getR (kf := 73) (kz := 73) rfl kd_11 rfl ⟨by decide, by decide⟩ rfl wf_12_170 dX12_makeShown_179 ?_
          refine v_iload_n (f := 2) 2 rfl dX12_makeShown_182 ?_
          refine v_aload_n (f := 0) 0 rfl dX12_makeShown_183 ?_
          refine v_getR (kf := 73) (kz := 73) rfl kd_11 rfl ⟨by decide, by decide⟩ rfl wf_12_170 dX12_makeShown_184 ?_
          refine v_iload_n (f := 2) 2 rfl dX12_makeShown_187 ?_
          refine v_iaload kd_212 g39 (by decide) dX12_makeShown_188 ?_
          refine v_aload_n (f := 0) 0 rfl dX12_makeShown_189 ?_
          refine v_getR (kf := 59) (kz := 59) rfl kd_11 rfl ⟨by decide, by decide⟩ rfl wf_12_127 dX12_makeShown_190 ?_
          refine v_iload_n (f := 3) 3 rfl dX12_makeShown_193 ?_
          refine v_iaload kd_198 g40 (by decide) dX12_makeShown_194 ?_
          refine v_cSIp (nA := 2) (As := [bI _, bI _]) (ix := 414) (cf_X12_lesser (b_wp_b h)) rfl wc_X12_lesser wm_12_414 wi_X12_lesser wn_12 ⟨by decide, by decide, by decide⟩ rfl ⟨by decide, by decide⟩ ⟨by decide, by decide⟩ (Nat.le_of_ble_eq_true rfl) dX12_makeShown_195 (fun x41 h => ?_)
          obtain ⟨g42, h⟩ := b_wp_g h
          refine v_iastore kd_212 g42 (by decide) dX12_makeShown_198 ?_
          replace h := b_wp_l h
          obtain ⟨g44, h⟩ := b_wp_g h
          refine v_iincN (ls' := [(3, bI _), (0, bR _), (1, bI _), (2, bI _)]) 3 rfl (by decide) g44 dX12_makeShown_199 rfl ?_
          refine v_goto (tgt := 118) dX12_makeShown_202 (by decide) ?_
          refine v_sub (ls2 := [(0, bR _), (1, bI _), (2, bI _), (3, bI _)]) [1, 2, 3, 0] rfl ?_
          exact h
        · replace h := b_wp_f c33 h
          obtain ⟨g45, h⟩ := b_wp_g h
          refine v_goto (tgt := 199) dX12_makeShown_154 (by decide) ?_
          refine v_iincN (ls' := [(3, bI _), (0, bR _), (1, bI _), (2, bI _)]) 3 rfl (by decide) g45 dX12_makeShown_199 rfl ?_
          refine v_goto (tgt := 118) dX12_makeShown_202 (by decide) ?_
          refine v_sub (ls2 := [(0, bR _), (1, bI _), (2, bI _), (3, bI _)]) [1, 2, 3, 0] rfl ?_
          exact h
theorem l_X12_makeShown_118 {l : Launch} {E : bE} {Q : bM → Prop} {v1 : Int} {v2 : Int} {s : Int × bM} (h : b_wp (b_loop (fun t => F_X12_makeShown_s118 v1 v2 t.1 t.2) s) (X_X12_makeShown_118 l E Q v1 v2)) : A_X12_makeShown_118 l E Q v1 v2 s := b_loop_wp (fun t h => t_X12_makeShown_s118 h) s h
noncomputable def F_X12_makeShown_b205 (v1 : Int) (v2 : Int) (M : bM) : Option ((Int × bM) ⊕ (bM)) :=
  b_g (0 ≤ v2 ∧ v2 < 30) (if (M 212 v2) < (M 211 v2) then (b_g (0 ≤ v2 ∧ v2 < 30) (b_let (b_up M 211 v2 0) (fun M49 => b_g (0 ≤ v2 ∧ v2 < 30) (b_let (b_up M49 212 v2 9999) (fun M51 => b_g (0 ≤ v2 ∧ v2 < 30) (b_let (b_up M51 213 v2 (i_or (M51 213 v2) 8)) (fun M53 => b_g (b_i32 (v2 + 1)) (some (.inl ((v2 + 1), M53)))))))))) else (b_g (b_i32 (v2 + 1)) (some (.inl ((v2 + 1), M)))))
theorem t_X12_makeShown_b205 {l : Launch} {E : bE} {Q : bM → Prop} {v1 : Int} {v2 : Int} {M : bM} (h : b_wp (F_X12_makeShown_b205 v1 v2 M) (Sum.elim (A_X12_makeShown_65 l E Q v1) (X_X12_makeShown_65 l E Q v1))) : V l E xX12_makeShown (0, 0) 205 [(0, bR 11), (1, bI v1), (2, bI v2)] [] M (b_pV Q) := by
  unfold F_X12_makeShown_b205 at h
  obtain ⟨g46, h⟩ := b_wp_g h
  refine v_aload_n (f := 0) 0 rfl dX12_makeShown_205 ?_
  refine v_getR (kf := 72) (kz := 72) rfl kd_11 rfl ⟨by decide, by decide⟩ rfl wf_12_167 dX12_makeShown_206 ?_
  refine v_iload_n (f := 2) 2 rfl dX12_makeShown_209 ?_
  refine v_iaload kd_211 g46 (by decide) dX12_makeShown_210 ?_
  refine v_aload_n (f := 0) 0 rfl dX12_makeShown_211 ?_
  refine v_getR (kf := 73) (kz := 73) rfl kd_11 rfl ⟨by decide, by decide⟩ rfl wf_12_170 dX12_makeShown_212 ?_
  refine v_iload_n (f := 2) 2 rfl dX12_makeShown_215 ?_
  refine v_iaload kd_212 g46 (by decide) dX12_makeShown_216 ?_
  refine v_icmp_gt (tgt := 223) dX12_makeShown_217 (by decide) (fun c47 => ?_) (fun c47 => ?_)
  · replace h := b_wp_t c47 h
    obtain ⟨g48, h⟩ := b_wp_g h
    refine v_aload_n (f := 0) 0 rfl dX12_makeShown_223 ?_
    refine v_getR (kf := 72) (kz := 72) rfl kd_11 rfl ⟨by decide, by decide⟩ rfl wf_12_167 dX12_makeShown_224 ?_
    refine v_iload_n (f := 2) 2 rfl dX12_makeShown_227 ?_
    refine v_iconst ⟨by decide, by decide⟩ dX12_makeShown_228 ?_
    refine v_iastore kd_211 g48 (by decide) dX12_makeShown_229 ?_
    replace h := b_wp_l h
    obtain ⟨g50, h⟩ := b_wp_g h
    refine v_aload_n (f := 0) 0 rfl dX12_makeShown_230 ?_
    refine v_getR (kf := 73) (kz := 73) rfl kd_11 rfl ⟨by decide, by decide⟩ rfl wf_12_170 dX12_makeShown_231 ?_
    refine v_iload_n (f := 2) 2 rfl dX12_makeShown_234 ?_
    refine v_sipush ⟨by decide, by decide⟩ (by decide) dX12_makeShown_235 ?_
    refine v_iastore kd_212 g50 (by decide) dX12_makeShown_238 ?_
    replace h := b_wp_l h
    obtain ⟨g52, h⟩ := b_wp_g h
    refine v_aload_n (f := 0) 0 rfl dX12_makeShown_239 ?_
    refine v_getR (kf := 74) (kz := 74) rfl kd_11 rfl ⟨by decide, by decide⟩ rfl wf_12_173 dX12_makeShown_240 ?_
    refine v_iload_n (f := 2) 2 rfl dX12_makeShown_243 ?_
    refine v_dup2 rfl rfl dX12_makeShown_244 ?_
    refine v_iaload kd_213 g52 (by decide) dX12_makeShown_245 ?_
    refine v_bipush ⟨by decide, by decide⟩ (by decide) dX12_makeShown_246 ?_
    refine v_ior (v := i_or _ _) rfl dX12_makeShown_248 ?_
    refine v_iastore kd_213 g52 (by decide) dX12_makeShown_249 ?_
    replace h := b_wp_l h
    obtain ⟨g54, h⟩ := b_wp_g h
    refine v_iincN (ls' := [(2, bI _), (0, bR _), (1, bI _)]) 2 rfl (by decide) g54 dX12_makeShown_250 rfl ?_
    refine v_goto (tgt := 65) dX12_makeShown_253 (by decide) ?_
    refine v_sub (ls2 := [(0, bR _), (1, bI _), (2, bI _)]) [1, 2, 0] rfl ?_
    exact h
  · replace h := b_wp_f c47 h
    obtain ⟨g55, h⟩ := b_wp_g h
    refine v_goto (tgt := 250) dX12_makeShown_220 (by decide) ?_
    refine v_iincN (ls' := [(2, bI _), (0, bR _), (1, bI _)]) 2 rfl (by decide) g55 dX12_makeShown_250 rfl ?_
    refine v_goto (tgt := 65) dX12_makeShown_253 (by decide) ?_
    refine v_sub (ls2 := [(0, bR _), (1, bI _), (2, bI _)]) [1, 2, 0] rfl ?_
    exact h
noncomputable def F_X12_makeShown_b100 (v1 : Int) (v2 : Int) (M : bM) : Option ((Int × bM) ⊕ (bM)) :=
  b_g (0 ≤ v2 ∧ v2 < 30) (b_let (b_up M 211 v2 0) (fun M22 => b_g (0 ≤ v2 ∧ v2 < 30) (b_let (b_up M22 212 v2 9999) (fun M24 => b_bind (b_loop (fun t => F_X12_makeShown_s118 v1 v2 t.1 t.2) (0, M24)) (fun t => F_X12_makeShown_b205 v1 v2 t)))))
theorem t_X12_makeShown_b100 {l : Launch} {E : bE} {Q : bM → Prop} {v1 : Int} {v2 : Int} {M : bM} (h : b_wp (F_X12_makeShown_b100 v1 v2 M) (Sum.elim (A_X12_makeShown_65 l E Q v1) (X_X12_makeShown_65 l E Q v1))) : V l E xX12_makeShown (0, 0) 100 [(0, bR 11), (1, bI v1), (2, bI v2)] [] M (b_pV Q) := by
  unfold F_X12_makeShown_b100 at h
  obtain ⟨g21, h⟩ := b_wp_g h
  refine v_aload_n (f := 0) 0 rfl dX12_makeShown_100 ?_
  refine v_getR (kf := 72) (kz := 72) rfl kd_11 rfl ⟨by decide, by decide⟩ rfl wf_12_167 dX12_makeShown_101 ?_
  refine v_iload_n (f := 2) 2 rfl dX12_makeShown_104 ?_
  refine v_iconst ⟨by decide, by decide⟩ dX12_makeShown_105 ?_
  refine v_iastore kd_211 g21 (by decide) dX12_makeShown_106 ?_
  replace h := b_wp_l h
  obtain ⟨g23, h⟩ := b_wp_g h
  refine v_aload_n (f := 0) 0 rfl dX12_makeShown_107 ?_
  refine v_getR (kf := 73) (kz := 73) rfl kd_11 rfl ⟨by decide, by decide⟩ rfl wf_12_170 dX12_makeShown_108 ?_
  refine v_iload_n (f := 2) 2 rfl dX12_makeShown_111 ?_
  refine v_sipush ⟨by decide, by decide⟩ (by decide) dX12_makeShown_112 ?_
  refine v_iastore kd_212 g23 (by decide) dX12_makeShown_115 ?_
  replace h := b_wp_l h
  refine v_iconst ⟨by decide, by decide⟩ dX12_makeShown_116 ?_
  refine v_istore_n (g := 3) (i := 3) (ls' := [(3, bI _), (0, bR _), (1, bI _), (2, bI _)]) rfl (by decide) dX12_makeShown_117 rfl ?_
  refine v_sub (ls2 := [(0, bR _), (1, bI _), (2, bI _), (3, bI _)]) [1, 2, 3, 0] rfl ?_
  refine l_X12_makeShown_118 (b_wp_m (fun t h => ?_) (b_wp_b h))
  show V l E xX12_makeShown (0, 0) 205 [(0, bR 11), (1, bI _), (2, bI _)] [] _ (b_pV Q)
  exact t_X12_makeShown_b205 h
noncomputable def F_X12_makeShown_s65 (v1 : Int) (v2 : Int) (M : bM) : Option ((Int × bM) ⊕ (bM)) :=
  if (M 11 52) ≤ v2 then (some (.inr (M))) else (b_g (0 ≤ v2 ∧ v2 < 30) (b_let (b_up M 213 v2 0) (fun M17 => b_bind (b_loop (fun t => F_X12_makeShown_s82 v1 v2 t.1 t.2) (0, M17)) (fun t => F_X12_makeShown_b100 v1 v2 t))))
theorem t_X12_makeShown_s65 {l : Launch} {E : bE} {Q : bM → Prop} {v1 : Int} {v2 : Int} {M : bM} (h : b_wp (F_X12_makeShown_s65 v1 v2 M) (Sum.elim (A_X12_makeShown_65 l E Q v1) (X_X12_makeShown_65 l E Q v1))) : V l E xX12_makeShown (0, 0) 65 [(0, bR 11), (1, bI v1), (2, bI v2)] [] M (b_pV Q) := by
  unfold F_X12_makeShown_s65 at h
  refine v_iload_n (f := 2) 2 rfl dX12_makeShown_65 ?_
  refine v_aload_n (f := 0) 0 rfl dX12_makeShown_66 ?_
  refine v_getI (kf := 52) (kz := 52) rfl kd_11 rfl ⟨by decide, by decide⟩ rfl wf_12_496 dX12_makeShown_67 ?_
  refine v_icmp_ge (tgt := 256) dX12_makeShown_70 (by decide) (fun c15 => ?_) (fun c15 => ?_)
  · replace h := b_wp_t c15 h
    refine v_sub (ls2 := []) [] rfl ?_
    exact h
  · replace h := b_wp_f c15 h
    obtain ⟨g16, h⟩ := b_wp_g h
    refine v_aload_n (f := 0) 0 rfl dX12_makeShown_73 ?_
    refine v_getR (kf := 74) (kz := 74) rfl kd_11 rfl ⟨by decide, by decide⟩ rfl wf_12_173 dX12_makeShown_74 ?_
    refine v_iload_n (f := 2) 2 rfl dX12_makeShown_77 ?_
    refine v_iconst ⟨by decide, by decide⟩ dX12_makeShown_78 ?_
    refine v_iastore kd_213 g16 (by decide) dX12_makeShown_79 ?_
    replace h := b_wp_l h
    refine v_iconst ⟨by decide, by decide⟩ dX12_makeShown_80 ?_
    refine v_istore_n (g := 3) (i := 3) (ls' := [(3, bI _), (0, bR _), (1, bI _), (2, bI _)]) rfl (by decide) dX12_makeShown_81 rfl ?_
    refine v_sub (ls2 := [(0, bR _), (1, bI _), (2, bI _), (3, bI _)]) [1, 2, 3, 0] rfl ?_
    refine l_X12_makeShown_82 (b_wp_m (fun t h => ?_) (b_wp_b h))
    show V l E xX12_makeShown (0, 0) 100 [(0, bR 11), (1, bI _), (2, bI _)] [] _ (b_pV Q)
    exact t_X12_makeShown_b100 h
theorem l_X12_makeShown_65 {l : Launch} {E : bE} {Q : bM → Prop} {v1 : Int} {s : Int × bM} (h : b_wp (b_loop (fun t => F_X12_makeShown_s65 v1 t.1 t.2) s) (X_X12_makeShown_65 l E Q v1)) : A_X12_makeShown_65 l E Q v1 s := b_loop_wp (fun t h => t_X12_makeShown_s65 h) s h
noncomputable def F_X12_makeShown_b256 (M : bM) : Option (bM) :=
  some M
theorem t_X12_makeShown_b256 {l : Launch} {E : bE} {Q : bM → Prop} {M : bM} (h : b_wp (F_X12_makeShown_b256 M) (Q)) : V l E xX12_makeShown (0, 0) 256 [] [] M (b_pV Q) := by
  unfold F_X12_makeShown_b256 at h
  refine v_return rfl dX12_makeShown_256 ⟨by decide, by decide⟩ ?_
  exact ⟨rfl, h⟩
noncomputable def F_X12_makeShown_b63 (v1 : Int) (M : bM) : Option (bM) :=
  b_bind (b_loop (fun t => F_X12_makeShown_s65 v1 t.1 t.2) (0, M)) (fun t => F_X12_makeShown_b256 t)
theorem t_X12_makeShown_b63 {l : Launch} {E : bE} {Q : bM → Prop} {v1 : Int} {M : bM} (h : b_wp (F_X12_makeShown_b63 v1 M) (Q)) : V l E xX12_makeShown (0, 0) 63 [(0, bR 11), (1, bI v1)] [] M (b_pV Q) := by
  unfold F_X12_makeShown_b63 at h
  refine v_iconst ⟨by decide, by decide⟩ dX12_makeShown_63 ?_
  refine v_istore_n (g := 2) (i := 2) (ls' := [(2, bI _), (0, bR _), (1, bI _)]) rfl (by decide) dX12_makeShown_64 rfl ?_
  refine v_sub (ls2 := [(0, bR _), (1, bI _), (2, bI _)]) [1, 2, 0] rfl ?_
  refine l_X12_makeShown_65 (b_wp_m (fun t h => ?_) (b_wp_b h))
  show V l E xX12_makeShown (0, 0) 256 [] [] _ (b_pV Q)
  exact t_X12_makeShown_b256 h
noncomputable def F_X12_makeShown (v1 : Int) (M : bM) : Option (bM) :=
  b_bind (F_X12_makeOnes v1 M) (fun M1 => b_bind (b_loop (fun t => F_X12_makeShown_s7 v1 t.1 t.2) (0, M1)) (fun t => F_X12_makeShown_b63 v1 t))
theorem t_X12_makeShown {l : Launch} {E : bE} {Q : bM → Prop} {v1 : Int} {M : bM} (h : b_wp (F_X12_makeShown v1 M) (Q)) : V l E xX12_makeShown (0, 0) 0 [(0, bR 11), (1, bI v1)] [] M (b_pV Q) := by
  unfold F_X12_makeShown at h
  refine v_aload_n (f := 0) 0 rfl dX12_makeShown_0 ?_
  refine v_iload_n (f := 1) 1 rfl dX12_makeShown_1 ?_
  refine v_cVV (nA := 1) (As := [bI _]) (ix := 367) (cf_X12_makeOnes (b_wp_b h)) rfl kd_11 rfl rfl wc_X12_makeOnes wm_12_367 wi_X12_makeOnes ws_X12_makeOnes wn_12 ⟨by decide, by decide, by decide⟩ rfl ⟨by decide, by decide⟩ ⟨by decide, by decide⟩ (Nat.le_of_ble_eq_true rfl) dX12_makeShown_2 (fun M1 h => ?_)
  refine v_iconst ⟨by decide, by decide⟩ dX12_makeShown_5 ?_
  refine v_istore_n (g := 2) (i := 2) (ls' := [(2, bI _), (0, bR _), (1, bI _)]) rfl (by decide) dX12_makeShown_6 rfl ?_
  refine v_sub (ls2 := [(0, bR _), (1, bI _), (2, bI _)]) [1, 2, 0] rfl ?_
  refine l_X12_makeShown_7 (b_wp_m (fun t h => ?_) (b_wp_b h))
  show V l E xX12_makeShown (0, 0) 63 [(0, bR 11), (1, bI _)] [] _ (b_pV Q)
  exact t_X12_makeShown_b63 h
theorem cf_X12_makeShown {l : Launch} {E : bE} {M : bM} {v1 : Int} {Q : bM → Prop} (h : b_wp (F_X12_makeShown v1 M) Q) : b_C l E xX12_makeShown yX12_makeShown [bR 11, bI v1] M (b_pV Q) := b_met (by decide) ⟨rfl, rfl⟩ (Nat.le_of_ble_eq_true rfl) (fun _ _ => t_X12_makeShown h)
abbrev xX12_pointsOf : bX := ("BurntHallModel", prog_14_method_88_code, 3, (Option.some Jvm.ClassFile.FieldType.int), b_rm 2 0 0, 0, "pointsOf")
abbrev yX12_pointsOf : MethodName := ⟨"BurntHallModel", "pointsOf", "(I)I"⟩
theorem dX12_pointsOf_0 : decode prog_14_method_88_code 0 = .ok (.iconst 0, 1) := by decide +kernel
theorem dX12_pointsOf_1 : decode prog_14_method_88_code 1 = .ok (.istore_n 2, 1) := by decide +kernel
theorem dX12_pointsOf_2 : decode prog_14_method_88_code 2 = .ok (.iload_n 2, 1) := by decide +kernel
theorem dX12_pointsOf_3 : decode prog_14_method_88_code 3 = .ok (.iconst 3, 1) := by decide +kernel
theorem dX12_pointsOf_4 : decode prog_14_method_88_code 4 = .ok (.if_icmp .ge 25, 3) := by decide +kernel
theorem dX12_pointsOf_7 : decode prog_14_method_88_code 7 = .ok (.aload_n 0, 1) := by decide +kernel
theorem dX12_pointsOf_8 : decode prog_14_method_88_code 8 = .ok (.getfield 161, 3) := by decide +kernel
theorem dX12_pointsOf_11 : decode prog_14_method_88_code 11 = .ok (.iconst 3, 1) := by decide +kernel
theorem dX12_pointsOf_12 : decode prog_14_method_88_code 12 = .ok (.iload_n 1, 1) := by decide +kernel
theorem dX12_pointsOf_13 : decode prog_14_method_88_code 13 = .ok (.imul, 1) := by decide +kernel
theorem dX12_pointsOf_14 : decode prog_14_method_88_code 14 = .ok (.iload_n 2, 1) := by decide +kernel
theorem dX12_pointsOf_15 : decode prog_14_method_88_code 15 = .ok (.iadd, 1) := by decide +kernel
theorem dX12_pointsOf_16 : decode prog_14_method_88_code 16 = .ok (.iaload, 1) := by decide +kernel
theorem dX12_pointsOf_17 : decode prog_14_method_88_code 17 = .ok (.iconst (-1), 1) := by decide +kernel
theorem dX12_pointsOf_18 : decode prog_14_method_88_code 18 = .ok (.if_icmp .ne 5, 3) := by decide +kernel
theorem dX12_pointsOf_21 : decode prog_14_method_88_code 21 = .ok (.iconst 0, 1) := by decide +kernel
theorem dX12_pointsOf_22 : decode prog_14_method_88_code 22 = .ok (.ireturn, 1) := by decide +kernel
theorem dX12_pointsOf_23 : decode prog_14_method_88_code 23 = .ok (.iinc 2 1, 3) := by decide +kernel
theorem dX12_pointsOf_26 : decode prog_14_method_88_code 26 = .ok (.goto (-24), 3) := by decide +kernel
theorem dX12_pointsOf_29 : decode prog_14_method_88_code 29 = .ok (.aload_n 0, 1) := by decide +kernel
theorem dX12_pointsOf_30 : decode prog_14_method_88_code 30 = .ok (.getfield 164, 3) := by decide +kernel
theorem dX12_pointsOf_33 : decode prog_14_method_88_code 33 = .ok (.iconst 3, 1) := by decide +kernel
theorem dX12_pointsOf_34 : decode prog_14_method_88_code 34 = .ok (.iload_n 1, 1) := by decide +kernel
theorem dX12_pointsOf_35 : decode prog_14_method_88_code 35 = .ok (.imul, 1) := by decide +kernel
theorem dX12_pointsOf_36 : decode prog_14_method_88_code 36 = .ok (.iaload, 1) := by decide +kernel
theorem dX12_pointsOf_37 : decode prog_14_method_88_code 37 = .ok (.aload_n 0, 1) := by decide +kernel
theorem dX12_pointsOf_38 : decode prog_14_method_88_code 38 = .ok (.getfield 164, 3) := by decide +kernel
theorem dX12_pointsOf_41 : decode prog_14_method_88_code 41 = .ok (.iconst 3, 1) := by decide +kernel
theorem dX12_pointsOf_42 : decode prog_14_method_88_code 42 = .ok (.iload_n 1, 1) := by decide +kernel
theorem dX12_pointsOf_43 : decode prog_14_method_88_code 43 = .ok (.imul, 1) := by decide +kernel
theorem dX12_pointsOf_44 : decode prog_14_method_88_code 44 = .ok (.iconst 1, 1) := by decide +kernel
theorem dX12_pointsOf_45 : decode prog_14_method_88_code 45 = .ok (.iadd, 1) := by decide +kernel
theorem dX12_pointsOf_46 : decode prog_14_method_88_code 46 = .ok (.iaload, 1) := by decide +kernel
theorem dX12_pointsOf_47 : decode prog_14_method_88_code 47 = .ok (.aload_n 0, 1) := by decide +kernel
theorem dX12_pointsOf_48 : decode prog_14_method_88_code 48 = .ok (.getfield 164, 3) := by decide +kernel
theorem dX12_pointsOf_51 : decode prog_14_method_88_code 51 = .ok (.iconst 3, 1) := by decide +kernel
theorem dX12_pointsOf_52 : decode prog_14_method_88_code 52 = .ok (.iload_n 1, 1) := by decide +kernel
theorem dX12_pointsOf_53 : decode prog_14_method_88_code 53 = .ok (.imul, 1) := by decide +kernel
theorem dX12_pointsOf_54 : decode prog_14_method_88_code 54 = .ok (.iconst 2, 1) := by decide +kernel
theorem dX12_pointsOf_55 : decode prog_14_method_88_code 55 = .ok (.iadd, 1) := by decide +kernel
theorem dX12_pointsOf_56 : decode prog_14_method_88_code 56 = .ok (.iaload, 1) := by decide +kernel
theorem dX12_pointsOf_57 : decode prog_14_method_88_code 57 = .ok (.invokestatic 414, 3) := by decide +kernel
theorem dX12_pointsOf_60 : decode prog_14_method_88_code 60 = .ok (.invokestatic 414, 3) := by decide +kernel
theorem dX12_pointsOf_63 : decode prog_14_method_88_code 63 = .ok (.ireturn, 1) := by decide +kernel
abbrev A_X12_pointsOf_2 (l : Launch) (E : bE) (Q : Int → Prop) (v1 : Int) (M : bM) : (Int) → Prop := (fun t : Int => V l E xX12_pointsOf (0, 0) 2 [(0, bR 11), (1, bI v1), (2, bI t)] [] M (b_pIp M Q))
abbrev X_X12_pointsOf_2 (l : Launch) (E : bE) (Q : Int → Prop) (v1 : Int) (M : bM) : ((Unit) ⊕ Int) → Prop := (Sum.elim (fun t : Unit => V l E xX12_pointsOf (0, 0) 29 [(0, bR 11), (1, bI v1)] [] M (b_pIp M Q)) Q)
noncomputable def F_X12_pointsOf_s2 (v1 : Int) (v2 : Int) (M : bM) : Option ((Int) ⊕ ((Unit) ⊕ Int)) :=
  if 3 ≤ v2 then (some (.inr (.inl ()))) else (b_g ((b_i32 (3 * v1)) ∧ (b_i32 ((3 * v1) + v2)) ∧ (0 ≤ ((3 * v1) + v2) ∧ ((3 * v1) + v2) < 90)) (if (M 209 ((3 * v1) + v2)) = (-1) then (some (.inr (.inr 0))) else (b_g (b_i32 (v2 + 1)) (some (.inl ((v2 + 1)))))))
theorem t_X12_pointsOf_s2 {l : Launch} {E : bE} {Q : Int → Prop} {v1 : Int} {v2 : Int} {M : bM} (h : b_wp (F_X12_pointsOf_s2 v1 v2 M) (Sum.elim (A_X12_pointsOf_2 l E Q v1 M) (X_X12_pointsOf_2 l E Q v1 M))) : V l E xX12_pointsOf (0, 0) 2 [(0, bR 11), (1, bI v1), (2, bI v2)] [] M (b_pIp M Q) := by
  unfold F_X12_pointsOf_s2 at h
  refine v_iload_n (f := 2) 2 rfl dX12_pointsOf_2 ?_
  refine v_iconst ⟨by decide, by decide⟩ dX12_pointsOf_3 ?_
  refine v_icmp_ge (tgt := 29) dX12_pointsOf_4 (by decide) (fun c1 => ?_) (fun c1 => ?_)
  · replace h := b_wp_t c1 h
    refine v_sub (ls2 := [(0, bR _), (1, bI _)]) [0, 1] rfl ?_
    exact h
  · replace h := b_wp_f c1 h
    obtain ⟨⟨g2, g3, g4⟩, h⟩ := b_wp_g h
    refine v_aload_n (f := 0) 0 rfl dX12_pointsOf_7 ?_
    refine v_getR (kf := 70) (kz := 70) rfl kd_11 rfl ⟨by decide, by decide⟩ rfl wf_12_161 dX12_pointsOf_8 ?_
    refine v_iconst ⟨by decide, by decide⟩ dX12_pointsOf_11 ?_
    refine v_iload_n (f := 1) 1 rfl dX12_pointsOf_12 ?_
    refine v_imulN g2 dX12_pointsOf_13 ?_
    refine v_iload_n (f := 2) 2 rfl dX12_pointsOf_14 ?_
    refine v_iaddN g3 dX12_pointsOf_15 ?_
    refine v_iaload kd_209 g4 (by decide) dX12_pointsOf_16 ?_
    refine v_iconst ⟨by decide, by decide⟩ dX12_pointsOf_17 ?_
    refine v_icmp_ne (tgt := 23) dX12_pointsOf_18 (by decide) (fun c5 => ?_) (fun c5 => ?_)
    · replace h := b_wp_f c5 h
      obtain ⟨g6, h⟩ := b_wp_g h
      refine v_iincN (ls' := [(2, bI _), (0, bR _), (1, bI _)]) 2 rfl (by decide) g6 dX12_pointsOf_23 rfl ?_
      refine v_goto (tgt := 2) dX12_pointsOf_26 (by decide) ?_
      refine v_sub (ls2 := [(0, bR _), (1, bI _), (2, bI _)]) [1, 2, 0] rfl ?_
      exact h
    · replace h := b_wp_t c5 h
      refine v_iconst ⟨by decide, by decide⟩ dX12_pointsOf_21 ?_
      refine v_ireturn rfl dX12_pointsOf_22 ⟨by decide, by decide⟩ ?_
      exact ⟨_, rfl, rfl, h⟩
theorem l_X12_pointsOf_2 {l : Launch} {E : bE} {Q : Int → Prop} {v1 : Int} {M : bM} {s : Int} (h : b_wp (b_loop (fun t => F_X12_pointsOf_s2 v1 t M) s) (X_X12_pointsOf_2 l E Q v1 M)) : A_X12_pointsOf_2 l E Q v1 M s := b_loop_wp (fun t h => t_X12_pointsOf_s2 h) s h
noncomputable def F_X12_pointsOf_b29 (v1 : Int) (M : bM) : Option (Int) :=
  b_g ((b_i32 (3 * v1)) ∧ (0 ≤ (3 * v1) ∧ (3 * v1) < 90) ∧ (b_i32 ((3 * v1) + 1)) ∧ (0 ≤ ((3 * v1) + 1) ∧ ((3 * v1) + 1) < 90) ∧ (b_i32 ((3 * v1) + 2)) ∧ (0 ≤ ((3 * v1) + 2) ∧ ((3 * v1) + 2) < 90)) (b_bind (F_X12_lesser (M 210 ((3 * v1) + 1)) (M 210 ((3 * v1) + 2)) M) (fun x13 => b_bind (F_X12_lesser (M 210 (3 * v1)) x13 M) (fun x14 => some x14)))
theorem t_X12_pointsOf_b29 {l : Launch} {E : bE} {Q : Int → Prop} {v1 : Int} {M : bM} (h : b_wp (F_X12_pointsOf_b29 v1 M) (Q)) : V l E xX12_pointsOf (0, 0) 29 [(0, bR 11), (1, bI v1)] [] M (b_pIp M Q) := by
  unfold F_X12_pointsOf_b29 at h
  obtain ⟨⟨g7, g8, g9, g10, g11, g12⟩, h⟩ := b_wp_g h
  refine v_aload_n (f := 0) 0 rfl dX12_pointsOf_29 ?_
  refine v_getR (kf := 71) (kz := 71) rfl kd_11 rfl ⟨by decide, by decide⟩ rfl wf_12_164 dX12_pointsOf_30 ?_
  refine v_iconst ⟨by decide, by decide⟩ dX12_pointsOf_33 ?_
  refine v_iload_n (f := 1) 1 rfl dX12_pointsOf_34 ?_
  refine v_imulN g7 dX12_pointsOf_35 ?_
  refine v_iaload kd_210 g8 (by decide) dX12_pointsOf_36 ?_
  refine v_aload_n (f := 0) 0 rfl dX12_pointsOf_37 ?_
  refine v_getR (kf := 71) (kz := 71) rfl kd_11 rfl ⟨by decide, by decide⟩ rfl wf_12_164 dX12_pointsOf_38 ?_
  refine v_iconst ⟨by decide, by decide⟩ dX12_pointsOf_41 ?_
  refine v_iload_n (f := 1) 1 rfl dX12_pointsOf_42 ?_
  refine v_imulN g7 dX12_pointsOf_43 ?_
  refine v_iconst ⟨by decide, by decide⟩ dX12_pointsOf_44 ?_
  refine v_iaddN g9 dX12_pointsOf_45 ?_
  refine v_iaload kd_210 g10 (by decide) dX12_pointsOf_46 ?_
  refine v_aload_n (f := 0) 0 rfl dX12_pointsOf_47 ?_
  refine v_getR (kf := 71) (kz := 71) rfl kd_11 rfl ⟨by decide, by decide⟩ rfl wf_12_164 dX12_pointsOf_48 ?_
  refine v_iconst ⟨by decide, by decide⟩ dX12_pointsOf_51 ?_
  refine v_iload_n (f := 1) 1 rfl dX12_pointsOf_52 ?_
  refine v_imulN g7 dX12_pointsOf_53 ?_
  refine v_iconst ⟨by decide, by decide⟩ dX12_pointsOf_54 ?_
  refine v_iaddN g11 dX12_pointsOf_55 ?_
  refine v_iaload kd_210 g12 (by decide) dX12_pointsOf_56 ?_
  refine v_cSIp (nA := 2) (As := [bI _, bI _]) (ix := 414) (cf_X12_lesser (b_wp_b h)) rfl wc_X12_lesser wm_12_414 wi_X12_lesser wn_12 ⟨by decide, by decide, by decide⟩ rfl ⟨by decide, by decide⟩ ⟨by decide, by decide⟩ (Nat.le_of_ble_eq_true rfl) dX12_pointsOf_57 (fun x13 h => ?_)
  refine v_cSIp (nA := 2) (As := [bI _, bI _]) (ix := 414) (cf_X12_lesser (b_wp_b h)) rfl wc_X12_lesser wm_12_414 wi_X12_lesser wn_12 ⟨by decide, by decide, by decide⟩ rfl ⟨by decide, by decide⟩ ⟨by decide, by decide⟩ (Nat.le_of_ble_eq_true rfl) dX12_pointsOf_60 (fun x14 h => ?_)
  refine v_ireturn rfl dX12_pointsOf_63 ⟨by decide, by decide⟩ ?_
  exact ⟨_, rfl, rfl, h⟩
noncomputable def F_X12_pointsOf (v1 : Int) (M : bM) : Option (Int) :=
  b_bind (b_loop (fun t => F_X12_pointsOf_s2 v1 t M) (0)) (Sum.elim (fun t => F_X12_pointsOf_b29 v1 M) some)
theorem t_X12_pointsOf {l : Launch} {E : bE} {Q : Int → Prop} {v1 : Int} {M : bM} (h : b_wp (F_X12_pointsOf v1 M) (Q)) : V l E xX12_pointsOf (0, 0) 0 [(0, bR 11), (1, bI v1)] [] M (b_pIp M Q) := by
  unfold F_X12_pointsOf at h
  refine v_iconst ⟨by decide, by decide⟩ dX12_pointsOf_0 ?_
  refine v_istore_n (g := 2) (i := 2) (ls' := [(2, bI _), (0, bR _), (1, bI _)]) rfl (by decide) dX12_pointsOf_1 rfl ?_
  refine v_sub (ls2 := [(0, bR _), (1, bI _), (2, bI _)]) [1, 2, 0] rfl ?_
  refine l_X12_pointsOf_2 (b_wp_m (fun t h => ?_) (b_wp_b h))
  cases t with
  | inr o => exact h
  | inl t =>
    show V l E xX12_pointsOf (0, 0) 29 [(0, bR 11), (1, bI _)] [] _ (b_pIp M Q)
    replace h := b_wp_inl h
    exact t_X12_pointsOf_b29 h
theorem cf_X12_pointsOf {l : Launch} {E : bE} {M : bM} {v1 : Int} {Q : Int → Prop} (h : b_wp (F_X12_pointsOf v1 M) Q) : b_C l E xX12_pointsOf yX12_pointsOf [bR 11, bI v1] M (b_pIp M Q) := b_met (by decide) ⟨rfl, rfl⟩ (Nat.le_of_ble_eq_true rfl) (fun _ _ => t_X12_pointsOf h)
abbrev xX12_shown : bX := ("BurntHallModel", prog_14_method_89_code, 4, (Option.some Jvm.ClassFile.FieldType.int), b_rm 5 0 0, 0, "shown")
abbrev yX12_shown : MethodName := ⟨"BurntHallModel", "shown", "(III)I"⟩
theorem dX12_shown_0 : decode prog_14_method_89_code 0 = .ok (.iload_n 1, 1) := by decide +kernel
theorem dX12_shown_1 : decode prog_14_method_89_code 1 = .ok (.iconst 0, 1) := by decide +kernel
theorem dX12_shown_2 : decode prog_14_method_89_code 2 = .ok (.aload_n 0, 1) := by decide +kernel
theorem dX12_shown_3 : decode prog_14_method_89_code 3 = .ok (.getfield 496, 3) := by decide +kernel
theorem dX12_shown_6 : decode prog_14_method_89_code 6 = .ok (.iconst 1, 1) := by decide +kernel
theorem dX12_shown_7 : decode prog_14_method_89_code 7 = .ok (.isub, 1) := by decide +kernel
theorem dX12_shown_8 : decode prog_14_method_89_code 8 = .ok (.invokestatic 279, 3) := by decide +kernel
theorem dX12_shown_11 : decode prog_14_method_89_code 11 = .ok (.ifCond .eq 20, 3) := by decide +kernel
theorem dX12_shown_14 : decode prog_14_method_89_code 14 = .ok (.iload_n 2, 1) := by decide +kernel
theorem dX12_shown_15 : decode prog_14_method_89_code 15 = .ok (.invokestatic 347, 3) := by decide +kernel
theorem dX12_shown_18 : decode prog_14_method_89_code 18 = .ok (.ifCond .eq 13, 3) := by decide +kernel
theorem dX12_shown_21 : decode prog_14_method_89_code 21 = .ok (.iload_n 3, 1) := by decide +kernel
theorem dX12_shown_22 : decode prog_14_method_89_code 22 = .ok (.iconst 0, 1) := by decide +kernel
theorem dX12_shown_23 : decode prog_14_method_89_code 23 = .ok (.bipush 9, 2) := by decide +kernel
theorem dX12_shown_25 : decode prog_14_method_89_code 25 = .ok (.invokestatic 279, 3) := by decide +kernel
theorem dX12_shown_28 : decode prog_14_method_89_code 28 = .ok (.ifCond .ne 6, 3) := by decide +kernel
theorem dX12_shown_31 : decode prog_14_method_89_code 31 = .ok (.bipush (-9), 2) := by decide +kernel
theorem dX12_shown_33 : decode prog_14_method_89_code 33 = .ok (.ireturn, 1) := by decide +kernel
theorem dX12_shown_34 : decode prog_14_method_89_code 34 = .ok (.aload_n 0, 1) := by decide +kernel
theorem dX12_shown_35 : decode prog_14_method_89_code 35 = .ok (.iload_n 2, 1) := by decide +kernel
theorem dX12_shown_36 : decode prog_14_method_89_code 36 = .ok (.invokevirtual 534, 3) := by decide +kernel
theorem dX12_shown_39 : decode prog_14_method_89_code 39 = .ok (.iload_n 3, 1) := by decide +kernel
theorem dX12_shown_40 : decode prog_14_method_89_code 40 = .ok (.iconst 3, 1) := by decide +kernel
theorem dX12_shown_41 : decode prog_14_method_89_code 41 = .ok (.if_icmp .ge 14, 3) := by decide +kernel
theorem dX12_shown_44 : decode prog_14_method_89_code 44 = .ok (.aload_n 0, 1) := by decide +kernel
theorem dX12_shown_45 : decode prog_14_method_89_code 45 = .ok (.getfield 161, 3) := by decide +kernel
theorem dX12_shown_48 : decode prog_14_method_89_code 48 = .ok (.iconst 3, 1) := by decide +kernel
theorem dX12_shown_49 : decode prog_14_method_89_code 49 = .ok (.iload_n 1, 1) := by decide +kernel
theorem dX12_shown_50 : decode prog_14_method_89_code 50 = .ok (.imul, 1) := by decide +kernel
theorem dX12_shown_51 : decode prog_14_method_89_code 51 = .ok (.iload_n 3, 1) := by decide +kernel
theorem dX12_shown_52 : decode prog_14_method_89_code 52 = .ok (.iadd, 1) := by decide +kernel
theorem dX12_shown_53 : decode prog_14_method_89_code 53 = .ok (.iaload, 1) := by decide +kernel
theorem dX12_shown_54 : decode prog_14_method_89_code 54 = .ok (.ireturn, 1) := by decide +kernel
theorem dX12_shown_55 : decode prog_14_method_89_code 55 = .ok (.iload_n 3, 1) := by decide +kernel
theorem dX12_shown_56 : decode prog_14_method_89_code 56 = .ok (.iconst 3, 1) := by decide +kernel
theorem dX12_shown_57 : decode prog_14_method_89_code 57 = .ok (.if_icmp .eq 8, 3) := by decide +kernel
theorem dX12_shown_60 : decode prog_14_method_89_code 60 = .ok (.iload_n 3, 1) := by decide +kernel
theorem dX12_shown_61 : decode prog_14_method_89_code 61 = .ok (.iconst 4, 1) := by decide +kernel
theorem dX12_shown_62 : decode prog_14_method_89_code 62 = .ok (.if_icmp .ne 24, 3) := by decide +kernel
theorem dX12_shown_65 : decode prog_14_method_89_code 65 = .ok (.iload_n 3, 1) := by decide +kernel
theorem dX12_shown_66 : decode prog_14_method_89_code 66 = .ok (.iconst 3, 1) := by decide +kernel
theorem dX12_shown_67 : decode prog_14_method_89_code 67 = .ok (.if_icmp .ne 12, 3) := by decide +kernel
theorem dX12_shown_70 : decode prog_14_method_89_code 70 = .ok (.aload_n 0, 1) := by decide +kernel
theorem dX12_shown_71 : decode prog_14_method_89_code 71 = .ok (.getfield 167, 3) := by decide +kernel
theorem dX12_shown_74 : decode prog_14_method_89_code 74 = .ok (.iload_n 1, 1) := by decide +kernel
theorem dX12_shown_75 : decode prog_14_method_89_code 75 = .ok (.iaload, 1) := by decide +kernel
theorem dX12_shown_76 : decode prog_14_method_89_code 76 = .ok (.goto 9, 3) := by decide +kernel
theorem dX12_shown_79 : decode prog_14_method_89_code 79 = .ok (.aload_n 0, 1) := by decide +kernel
theorem dX12_shown_80 : decode prog_14_method_89_code 80 = .ok (.getfield 170, 3) := by decide +kernel
theorem dX12_shown_83 : decode prog_14_method_89_code 83 = .ok (.iload_n 1, 1) := by decide +kernel
theorem dX12_shown_84 : decode prog_14_method_89_code 84 = .ok (.iaload, 1) := by decide +kernel
theorem dX12_shown_85 : decode prog_14_method_89_code 85 = .ok (.ireturn, 1) := by decide +kernel
theorem dX12_shown_86 : decode prog_14_method_89_code 86 = .ok (.iload_n 3, 1) := by decide +kernel
theorem dX12_shown_87 : decode prog_14_method_89_code 87 = .ok (.bipush 8, 2) := by decide +kernel
theorem dX12_shown_89 : decode prog_14_method_89_code 89 = .ok (.if_icmp .ge 18, 3) := by decide +kernel
theorem dX12_shown_92 : decode prog_14_method_89_code 92 = .ok (.aload_n 0, 1) := by decide +kernel
theorem dX12_shown_93 : decode prog_14_method_89_code 93 = .ok (.getfield 164, 3) := by decide +kernel
theorem dX12_shown_96 : decode prog_14_method_89_code 96 = .ok (.iconst 3, 1) := by decide +kernel
theorem dX12_shown_97 : decode prog_14_method_89_code 97 = .ok (.iload_n 1, 1) := by decide +kernel
theorem dX12_shown_98 : decode prog_14_method_89_code 98 = .ok (.imul, 1) := by decide +kernel
theorem dX12_shown_99 : decode prog_14_method_89_code 99 = .ok (.iload_n 3, 1) := by decide +kernel
theorem dX12_shown_100 : decode prog_14_method_89_code 100 = .ok (.iadd, 1) := by decide +kernel
theorem dX12_shown_101 : decode prog_14_method_89_code 101 = .ok (.iconst 5, 1) := by decide +kernel
theorem dX12_shown_102 : decode prog_14_method_89_code 102 = .ok (.isub, 1) := by decide +kernel
theorem dX12_shown_103 : decode prog_14_method_89_code 103 = .ok (.iaload, 1) := by decide +kernel
theorem dX12_shown_104 : decode prog_14_method_89_code 104 = .ok (.goto 23, 3) := by decide +kernel
theorem dX12_shown_107 : decode prog_14_method_89_code 107 = .ok (.iload_n 3, 1) := by decide +kernel
theorem dX12_shown_108 : decode prog_14_method_89_code 108 = .ok (.bipush 8, 2) := by decide +kernel
theorem dX12_shown_110 : decode prog_14_method_89_code 110 = .ok (.if_icmp .ne 11, 3) := by decide +kernel
theorem dX12_shown_113 : decode prog_14_method_89_code 113 = .ok (.aload_n 0, 1) := by decide +kernel
theorem dX12_shown_114 : decode prog_14_method_89_code 114 = .ok (.iload_n 1, 1) := by decide +kernel
theorem dX12_shown_115 : decode prog_14_method_89_code 115 = .ok (.invokevirtual 537, 3) := by decide +kernel
theorem dX12_shown_118 : decode prog_14_method_89_code 118 = .ok (.goto 9, 3) := by decide +kernel
theorem dX12_shown_121 : decode prog_14_method_89_code 121 = .ok (.aload_n 0, 1) := by decide +kernel
theorem dX12_shown_122 : decode prog_14_method_89_code 122 = .ok (.getfield 173, 3) := by decide +kernel
theorem dX12_shown_125 : decode prog_14_method_89_code 125 = .ok (.iload_n 1, 1) := by decide +kernel
theorem dX12_shown_126 : decode prog_14_method_89_code 126 = .ok (.iaload, 1) := by decide +kernel
theorem dX12_shown_127 : decode prog_14_method_89_code 127 = .ok (.ireturn, 1) := by decide +kernel
noncomputable def F_X12_shown_b65 (v1 : Int) (v3 : Int) (M : bM) : Option (Int × bM) :=
  if v3 = 3 then (b_g (0 ≤ v1 ∧ v1 < 30) (some ((M 211 v1), M))) else (b_g (0 ≤ v1 ∧ v1 < 30) (some ((M 212 v1), M)))
theorem t_X12_shown_b65 {l : Launch} {E : bE} {Q : (Int × bM) → Prop} {v1 : Int} {v3 : Int} {M : bM} (h : b_wp (F_X12_shown_b65 v1 v3 M) (Q)) : V l E xX12_shown (0, 0) 65 [(0, bR 11), (1, bI v1), (3, bI v3)] [] M (b_pI Q) := by
  unfold F_X12_shown_b65 at h
  refine v_iload_n (f := 3) 2 rfl dX12_shown_65 ?_
  refine v_iconst ⟨by decide, by decide⟩ dX12_shown_66 ?_
  refine v_icmp_ne (tgt := 79) dX12_shown_67 (by decide) (fun c11 => ?_) (fun c11 => ?_)
  · replace h := b_wp_f c11 h
    obtain ⟨g12, h⟩ := b_wp_g h
    refine v_aload_n (f := 0) 0 rfl dX12_shown_79 ?_
    refine v_getR (kf := 73) (kz := 73) rfl kd_11 rfl ⟨by decide, by decide⟩ rfl wf_12_170 dX12_shown_80 ?_
    refine v_iload_n (f := 1) 1 rfl dX12_shown_83 ?_
    refine v_iaload kd_212 g12 (by decide) dX12_shown_84 ?_
    refine v_ireturn rfl dX12_shown_85 ⟨by decide, by decide⟩ ?_
    exact ⟨_, rfl, h⟩
  · replace h := b_wp_t c11 h
    obtain ⟨g13, h⟩ := b_wp_g h
    refine v_aload_n (f := 0) 0 rfl dX12_shown_70 ?_
    refine v_getR (kf := 72) (kz := 72) rfl kd_11 rfl ⟨by decide, by decide⟩ rfl wf_12_167 dX12_shown_71 ?_
    refine v_iload_n (f := 1) 1 rfl dX12_shown_74 ?_
    refine v_iaload kd_211 g13 (by decide) dX12_shown_75 ?_
    refine v_goto (tgt := 85) dX12_shown_76 (by decide) ?_
    refine v_ireturn rfl dX12_shown_85 ⟨by decide, by decide⟩ ?_
    exact ⟨_, rfl, h⟩
noncomputable def F_X12_shown (v1 : Int) (v2 : Int) (v3 : Int) (M : bM) : Option (Int × bM) :=
  b_g (b_i32 ((M 11 52) - 1)) (b_bind (F_X12_in v1 0 ((M 11 52) - 1) M) (fun x2 => if x2 = 0 then (some ((-9), M)) else (b_bind (F_X12_isDay v2 M) (fun x4 => if x4 = 0 then (some ((-9), M)) else (b_bind (F_X12_in v3 0 9 M) (fun x6 => if x6 = 0 then (some ((-9), M)) else (b_bind (F_X12_makeShown v2 M) (fun M8 => if 3 ≤ v3 then (if v3 = 3 then (F_X12_shown_b65 v1 v3 M8) else (if v3 = 4 then (F_X12_shown_b65 v1 v3 M8) else (if 8 ≤ v3 then (if v3 = 8 then (b_bind (F_X12_pointsOf v1 M8) (fun x18 => some (x18, M8))) else (b_g (0 ≤ v1 ∧ v1 < 30) (some ((M8 213 v1), M8)))) else (b_g ((b_i32 (3 * v1)) ∧ (b_i32 ((3 * v1) + v3)) ∧ (b_i32 (((3 * v1) + v3) - 5)) ∧ (0 ≤ (((3 * v1) + v3) - 5) ∧ (((3 * v1) + v3) - 5) < 90)) (some ((M8 210 (((3 * v1) + v3) - 5)), M8)))))) else (b_g ((b_i32 (3 * v1)) ∧ (b_i32 ((3 * v1) + v3)) ∧ (0 ≤ ((3 * v1) + v3) ∧ ((3 * v1) + v3) < 90)) (some ((M8 209 ((3 * v1) + v3)), M8)))))))))))
theorem t_X12_shown {l : Launch} {E : bE} {Q : (Int × bM) → Prop} {v1 : Int} {v2 : Int} {v3 : Int} {M : bM} (h : b_wp (F_X12_shown v1 v2 v3 M) (Q)) : V l E xX12_shown (0, 0) 0 [(0, bR 11), (1, bI v1), (2, bI v2), (3, bI v3)] [] M (b_pI Q) := by
  unfold F_X12_shown at h
  obtain ⟨g1, h⟩ := b_wp_g h
  refine v_iload_n (f := 1) 1 rfl dX12_shown_0 ?_
  refine v_iconst ⟨by decide, by decide⟩ dX12_shown_1 ?_
  refine v_aload_n (f := 0) 0 rfl dX12_shown_2 ?_
  refine v_getI (kf := 52) (kz := 52) rfl kd_11 rfl ⟨by decide, by decide⟩ rfl wf_12_496 dX12_shown_3 ?_
  refine v_iconst ⟨by decide, by decide⟩ dX12_shown_6 ?_
  refine v_isubN g1 dX12_shown_7 ?_
  refine v_cSIp (nA := 3) (As := [bI _, bI _, bI _]) (ix := 279) (cf_X12_in (b_wp_b h)) rfl wc_X12_in wm_12_279 wi_X12_in wn_12 ⟨by decide, by decide, by decide⟩ rfl ⟨by decide, by decide⟩ ⟨by decide, by decide⟩ (Nat.le_of_ble_eq_true rfl) dX12_shown_8 (fun x2 h => ?_)
  refine v_if_eq (tgt := 31) dX12_shown_11 (by decide) (fun c3 => ?_) (fun c3 => ?_)
  · replace h := b_wp_t c3 h
    refine v_bipush ⟨by decide, by decide⟩ (by decide) dX12_shown_31 ?_
    refine v_ireturn rfl dX12_shown_33 ⟨by decide, by decide⟩ ?_
    exact ⟨_, rfl, h⟩
  · replace h := b_wp_f c3 h
    refine v_iload_n (f := 2) 2 rfl dX12_shown_14 ?_
    refine v_cSIp (nA := 1) (As := [bI _]) (ix := 347) (cf_X12_isDay (b_wp_b h)) rfl wc_X12_isDay wm_12_347 wi_X12_isDay wn_12 ⟨by decide, by decide, by decide⟩ rfl ⟨by decide, by decide⟩ ⟨by decide, by decide⟩ (Nat.le_of_ble_eq_true rfl) dX12_shown_15 (fun x4 h => ?_)
    refine v_if_eq (tgt := 31) dX12_shown_18 (by decide) (fun c5 => ?_) (fun c5 => ?_)
    · replace h := b_wp_t c5 h
      refine v_bipush ⟨by decide, by decide⟩ (by decide) dX12_shown_31 ?_
      refine v_ireturn rfl dX12_shown_33 ⟨by decide, by decide⟩ ?_
      exact ⟨_, rfl, h⟩
    · replace h := b_wp_f c5 h
      refine v_iload_n (f := 3) 3 rfl dX12_shown_21 ?_
      refine v_iconst ⟨by decide, by decide⟩ dX12_shown_22 ?_
      refine v_bipush ⟨by decide, by decide⟩ (by decide) dX12_shown_23 ?_
      refine v_cSIp (nA := 3) (As := [bI _, bI _, bI _]) (ix := 279) (cf_X12_in (b_wp_b h)) rfl wc_X12_in wm_12_279 wi_X12_in wn_12 ⟨by decide, by decide, by decide⟩ rfl ⟨by decide, by decide⟩ ⟨by decide, by decide⟩ (Nat.le_of_ble_eq_true rfl) dX12_shown_25 (fun x6 h => ?_)
      refine v_if_ne (tgt := 34) dX12_shown_28 (by decide) (fun c7 => ?_) (fun c7 => ?_)
      · replace h := b_wp_f c7 h
        refine v_aload_n (f := 0) 0 rfl dX12_shown_34 ?_
        refine v_iload_n (f := 2) 2 rfl dX12_shown_35 ?_
        refine v_cVV (nA := 1) (As := [bI _]) (ix := 534) (cf_X12_makeShown (b_wp_b h)) rfl kd_11 rfl rfl wc_X12_makeShown wm_12_534 wi_X12_makeShown ws_X12_makeShown wn_12 ⟨by decide, by decide, by decide⟩ rfl ⟨by decide, by decide⟩ ⟨by decide, by decide⟩ (Nat.le_of_ble_eq_true rfl) dX12_shown_36 (fun M8 h => ?_)
        refine v_iload_n (f := 3) 3 rfl dX12_shown_39 ?_
        refine v_iconst ⟨by decide, by decide⟩ dX12_shown_40 ?_
        refine v_icmp_ge (tgt := 55) dX12_shown_41 (by decide) (fun c9 => ?_) (fun c9 => ?_)
        · replace h := b_wp_t c9 h
          refine v_iload_n (f := 3) 3 rfl dX12_shown_55 ?_
          refine v_iconst ⟨by decide, by decide⟩ dX12_shown_56 ?_
          refine v_icmp_eq (tgt := 65) dX12_shown_57 (by decide) (fun c10 => ?_) (fun c10 => ?_)
          · replace h := b_wp_t c10 h
            refine v_sub (ls2 := [(0, bR _), (1, bI _), (3, bI _)]) [0, 1, 3] rfl ?_
            exact t_X12_shown_b65 h
          · replace h := b_wp_f c10 h
            refine v_iload_n (f := 3) 3 rfl dX12_shown_60 ?_
            refine v_iconst ⟨by decide, by decide⟩ dX12_shown_61 ?_
            refine v_icmp_ne (tgt := 86) dX12_shown_62 (by decide) (fun c14 => ?_) (fun c14 => ?_)
            · replace h := b_wp_f c14 h
              refine v_iload_n (f := 3) 3 rfl dX12_shown_86 ?_
              refine v_bipush ⟨by decide, by decide⟩ (by decide) dX12_shown_87 ?_
              refine v_icmp_ge (tgt := 107) dX12_shown_89 (by decide) (fun c15 => ?_) (fun c15 => ?_)
              · replace h := b_wp_t c15 h
                refine v_iload_n (f := 3) 3 rfl dX12_shown_107 ?_
                refine v_bipush ⟨by decide, by decide⟩ (by decide) dX12_shown_108 ?_
                refine v_icmp_ne (tgt := 121) dX12_shown_110 (by decide) (fun c16 => ?_) (fun c16 => ?_)
                · replace h := b_wp_f c16 h
                  obtain ⟨g17, h⟩ := b_wp_g h
                  refine v_aload_n (f := 0) 0 rfl dX12_shown_121 ?_
                  refine v_getR (kf := 74) (kz := 74) rfl kd_11 rfl ⟨by decide, by decide⟩ rfl wf_12_173 dX12_shown_122 ?_
                  refine v_iload_n (f := 1) 1 rfl dX12_shown_125 ?_
                  refine v_iaload kd_213 g17 (by decide) dX12_shown_126 ?_
                  refine v_ireturn rfl dX12_shown_127 ⟨by decide, by decide⟩ ?_
                  exact ⟨_, rfl, h⟩
                · replace h := b_wp_t c16 h
                  refine v_aload_n (f := 0) 0 rfl dX12_shown_113 ?_
                  refine v_iload_n (f := 1) 1 rfl dX12_shown_114 ?_
                  refine v_cVIp (nA := 1) (As := [bI _]) (ix := 537) (cf_X12_pointsOf (b_wp_b h)) rfl kd_11 rfl rfl wc_X12_pointsOf wm_12_537 wi_X12_pointsOf ws_X12_pointsOf wn_12 ⟨by decide, by decide, by decide⟩ rfl ⟨by decide, by decide⟩ ⟨by decide, by decide⟩ (Nat.le_of_ble_eq_true rfl) dX12_shown_115 (fun x18 h => ?_)
                  refine v_goto (tgt := 127) dX12_shown_118 (by decide) ?_
                  refine v_ireturn rfl dX12_shown_127 ⟨by decide, by decide⟩ ?_
                  exact ⟨_, rfl, h⟩
              · replace h := b_wp_f c15 h
                obtain ⟨⟨g19, g20, g21, g22⟩, h⟩ := b_wp_g h
                refine v_aload_n (f := 0) 0 rfl dX12_shown_92 ?_
                refine v_getR (kf := 71) (kz := 71) rfl kd_11 rfl ⟨by decide, by decide⟩ rfl wf_12_164 dX12_shown_93 ?_
                refine v_iconst ⟨by decide, by decide⟩ dX12_shown_96 ?_
                refine v_iload_n (f := 1) 1 rfl dX12_shown_97 ?_
                refine v_imulN g19 dX12_shown_98 ?_
                refine v_iload_n (f := 3) 3 rfl dX12_shown_99 ?_
                refine v_iaddN g20 dX12_shown_100 ?_
                refine v_iconst ⟨by decide, by decide⟩ dX12_shown_101 ?_
                refine v_isubN g21 dX12_shown_102 ?_
                refine v_iaload kd_210 g22 (by decide) dX12_shown_103 ?_
                refine v_goto (tgt := 127) dX12_shown_104 (by decide) ?_
                refine v_ireturn rfl dX12_shown_127 ⟨by decide, by decide⟩ ?_
                exact ⟨_, rfl, h⟩
            · replace h := b_wp_t c14 h
              refine v_sub (ls2 := [(0, bR _), (1, bI _), (3, bI _)]) [0, 1, 3] rfl ?_
              exact t_X12_shown_b65 h
        · replace h := b_wp_f c9 h
          obtain ⟨⟨g23, g24, g25⟩, h⟩ := b_wp_g h
          refine v_aload_n (f := 0) 0 rfl dX12_shown_44 ?_
          refine v_getR (kf := 70) (kz := 70) rfl kd_11 rfl ⟨by decide, by decide⟩ rfl wf_12_161 dX12_shown_45 ?_
          refine v_iconst ⟨by decide, by decide⟩ dX12_shown_48 ?_
          refine v_iload_n (f := 1) 1 rfl dX12_shown_49 ?_
          refine v_imulN g23 dX12_shown_50 ?_
          refine v_iload_n (f := 3) 3 rfl dX12_shown_51 ?_
          refine v_iaddN g24 dX12_shown_52 ?_
          refine v_iaload kd_209 g25 (by decide) dX12_shown_53 ?_
          refine v_ireturn rfl dX12_shown_54 ⟨by decide, by decide⟩ ?_
          exact ⟨_, rfl, h⟩
      · replace h := b_wp_t c7 h
        refine v_bipush ⟨by decide, by decide⟩ (by decide) dX12_shown_31 ?_
        refine v_ireturn rfl dX12_shown_33 ⟨by decide, by decide⟩ ?_
        exact ⟨_, rfl, h⟩
theorem cf_X12_shown {l : Launch} {E : bE} {M : bM} {v1 : Int} {v2 : Int} {v3 : Int} {Q : (Int × bM) → Prop} (h : b_wp (F_X12_shown v1 v2 v3 M) Q) : b_C l E xX12_shown yX12_shown [bR 11, bI v1, bI v2, bI v3] M (b_pI Q) := b_met (by decide) ⟨rfl, rfl⟩ (Nat.le_of_ble_eq_true rfl) (fun _ _ => t_X12_shown h)
abbrev xX12_root : bX := ("BurntHallModel", prog_14_method_90_code, 4, (Option.some Jvm.ClassFile.FieldType.int), b_rm 3 0 0, 0, "root")
abbrev yX12_root : MethodName := ⟨"BurntHallModel", "root", "(III)I"⟩
theorem dX12_root_0 : decode prog_14_method_90_code 0 = .ok (.aload_n 0, 1) := by decide +kernel
theorem dX12_root_1 : decode prog_14_method_90_code 1 = .ok (.iload_n 1, 1) := by decide +kernel
theorem dX12_root_2 : decode prog_14_method_90_code 2 = .ok (.invokevirtual 385, 3) := by decide +kernel
theorem dX12_root_5 : decode prog_14_method_90_code 5 = .ok (.ifCond .eq 18, 3) := by decide +kernel
theorem dX12_root_8 : decode prog_14_method_90_code 8 = .ok (.aload_n 0, 1) := by decide +kernel
theorem dX12_root_9 : decode prog_14_method_90_code 9 = .ok (.iload_n 2, 1) := by decide +kernel
theorem dX12_root_10 : decode prog_14_method_90_code 10 = .ok (.invokevirtual 356, 3) := by decide +kernel
theorem dX12_root_13 : decode prog_14_method_90_code 13 = .ok (.ifCond .eq 10, 3) := by decide +kernel
theorem dX12_root_16 : decode prog_14_method_90_code 16 = .ok (.iload_n 3, 1) := by decide +kernel
theorem dX12_root_17 : decode prog_14_method_90_code 17 = .ok (.invokestatic 347, 3) := by decide +kernel
theorem dX12_root_20 : decode prog_14_method_90_code 20 = .ok (.ifCond .ne 6, 3) := by decide +kernel
theorem dX12_root_23 : decode prog_14_method_90_code 23 = .ok (.bipush (-2), 2) := by decide +kernel
theorem dX12_root_25 : decode prog_14_method_90_code 25 = .ok (.ireturn, 1) := by decide +kernel
theorem dX12_root_26 : decode prog_14_method_90_code 26 = .ok (.aload_n 0, 1) := by decide +kernel
theorem dX12_root_27 : decode prog_14_method_90_code 27 = .ok (.getfield 51, 3) := by decide +kernel
theorem dX12_root_30 : decode prog_14_method_90_code 30 = .ok (.iload_n 1, 1) := by decide +kernel
theorem dX12_root_31 : decode prog_14_method_90_code 31 = .ok (.laload, 1) := by decide +kernel
theorem dX12_root_32 : decode prog_14_method_90_code 32 = .ok (.lconst 1, 1) := by decide +kernel
theorem dX12_root_33 : decode prog_14_method_90_code 33 = .ok (.iload_n 1, 1) := by decide +kernel
theorem dX12_root_34 : decode prog_14_method_90_code 34 = .ok (.lshl, 1) := by decide +kernel
theorem dX12_root_35 : decode prog_14_method_90_code 35 = .ok (.lcmp, 1) := by decide +kernel
theorem dX12_root_36 : decode prog_14_method_90_code 36 = .ok (.ifCond .ne 13, 3) := by decide +kernel
theorem dX12_root_39 : decode prog_14_method_90_code 39 = .ok (.aload_n 0, 1) := by decide +kernel
theorem dX12_root_40 : decode prog_14_method_90_code 40 = .ok (.getfield 185, 3) := by decide +kernel
theorem dX12_root_43 : decode prog_14_method_90_code 43 = .ok (.iload_n 1, 1) := by decide +kernel
theorem dX12_root_44 : decode prog_14_method_90_code 44 = .ok (.iaload, 1) := by decide +kernel
theorem dX12_root_45 : decode prog_14_method_90_code 45 = .ok (.iconst (-1), 1) := by decide +kernel
theorem dX12_root_46 : decode prog_14_method_90_code 46 = .ok (.if_icmp .eq 6, 3) := by decide +kernel
theorem dX12_root_49 : decode prog_14_method_90_code 49 = .ok (.bipush (-4), 2) := by decide +kernel
theorem dX12_root_51 : decode prog_14_method_90_code 51 = .ok (.ireturn, 1) := by decide +kernel
theorem dX12_root_52 : decode prog_14_method_90_code 52 = .ok (.aload_n 0, 1) := by decide +kernel
theorem dX12_root_53 : decode prog_14_method_90_code 53 = .ok (.getfield 185, 3) := by decide +kernel
theorem dX12_root_56 : decode prog_14_method_90_code 56 = .ok (.iload_n 1, 1) := by decide +kernel
theorem dX12_root_57 : decode prog_14_method_90_code 57 = .ok (.iload_n 2, 1) := by decide +kernel
theorem dX12_root_58 : decode prog_14_method_90_code 58 = .ok (.iastore, 1) := by decide +kernel
theorem dX12_root_59 : decode prog_14_method_90_code 59 = .ok (.aload_n 0, 1) := by decide +kernel
theorem dX12_root_60 : decode prog_14_method_90_code 60 = .ok (.getfield 188, 3) := by decide +kernel
theorem dX12_root_63 : decode prog_14_method_90_code 63 = .ok (.iload_n 1, 1) := by decide +kernel
theorem dX12_root_64 : decode prog_14_method_90_code 64 = .ok (.iload_n 3, 1) := by decide +kernel
theorem dX12_root_65 : decode prog_14_method_90_code 65 = .ok (.iastore, 1) := by decide +kernel
theorem dX12_root_66 : decode prog_14_method_90_code 66 = .ok (.iconst 1, 1) := by decide +kernel
theorem dX12_root_67 : decode prog_14_method_90_code 67 = .ok (.ireturn, 1) := by decide +kernel
noncomputable def F_X12_root (v1 : Int) (v2 : Int) (v3 : Int) (M : bM) : Option (Int × bM) :=
  b_bind (F_X12_isLot v1 M) (fun x1 => if x1 = 0 then (some ((-2), M)) else (b_bind (F_X12_isPerson v2 M) (fun x3 => if x3 = 0 then (some ((-2), M)) else (b_bind (F_X12_isDay v3 M) (fun x5 => if x5 = 0 then (some ((-2), M)) else (b_g (0 ≤ v1 ∧ v1 < 60) (if (j_cmp (M 174 v1) (j_shl 1 v1)) = 0 then (b_g (0 ≤ v1 ∧ v1 < 60) (if (M 217 v1) = (-1) then (b_g (0 ≤ v1 ∧ v1 < 60) (b_let (b_up M 217 v1 v2) (fun M12 => b_g (0 ≤ v1 ∧ v1 < 60) (b_let (b_up M12 218 v1 v3) (fun M14 => some (1, M14)))))) else (some ((-4), M)))) else (some ((-4), M)))))))))
theorem t_X12_root {l : Launch} {E : bE} {Q : (Int × bM) → Prop} {v1 : Int} {v2 : Int} {v3 : Int} {M : bM} (h : b_wp (F_X12_root v1 v2 v3 M) (Q)) : V l E xX12_root (0, 0) 0 [(0, bR 11), (1, bI v1), (2, bI v2), (3, bI v3)] [] M (b_pI Q) := by
  unfold F_X12_root at h
  refine v_aload_n (f := 0) 0 rfl dX12_root_0 ?_
  refine v_iload_n (f := 1) 1 rfl dX12_root_1 ?_
  refine v_cVIp (nA := 1) (As := [bI _]) (ix := 385) (cf_X12_isLot (b_wp_b h)) rfl kd_11 rfl rfl wc_X12_isLot wm_12_385 wi_X12_isLot ws_X12_isLot wn_12 ⟨by decide, by decide, by decide⟩ rfl ⟨by decide, by decide⟩ ⟨by decide, by decide⟩ (Nat.le_of_ble_eq_true rfl) dX12_root_2 (fun x1 h => ?_)
  refine v_if_eq (tgt := 23) dX12_root_5 (by decide) (fun c2 => ?_) (fun c2 => ?_)
  · replace h := b_wp_t c2 h
    refine v_bipush ⟨by decide, by decide⟩ (by decide) dX12_root_23 ?_
    refine v_ireturn rfl dX12_root_25 ⟨by decide, by decide⟩ ?_
    exact ⟨_, rfl, h⟩
  · replace h := b_wp_f c2 h
    refine v_aload_n (f := 0) 0 rfl dX12_root_8 ?_
    refine v_iload_n (f := 2) 2 rfl dX12_root_9 ?_
    refine v_cVIp (nA := 1) (As := [bI _]) (ix := 356) (cf_X12_isPerson (b_wp_b h)) rfl kd_11 rfl rfl wc_X12_isPerson wm_12_356 wi_X12_isPerson ws_X12_isPerson wn_12 ⟨by decide, by decide, by decide⟩ rfl ⟨by decide, by decide⟩ ⟨by decide, by decide⟩ (Nat.le_of_ble_eq_true rfl) dX12_root_10 (fun x3 h => ?_)
    refine v_if_eq (tgt := 23) dX12_root_13 (by decide) (fun c4 => ?_) (fun c4 => ?_)
    · replace h := b_wp_t c4 h
      refine v_bipush ⟨by decide, by decide⟩ (by decide) dX12_root_23 ?_
      refine v_ireturn rfl dX12_root_25 ⟨by decide, by decide⟩ ?_
      exact ⟨_, rfl, h⟩
    · replace h := b_wp_f c4 h
      refine v_iload_n (f := 3) 3 rfl dX12_root_16 ?_
      refine v_cSIp (nA := 1) (As := [bI _]) (ix := 347) (cf_X12_isDay (b_wp_b h)) rfl wc_X12_isDay wm_12_347 wi_X12_isDay wn_12 ⟨by decide, by decide, by decide⟩ rfl ⟨by decide, by decide⟩ ⟨by decide, by decide⟩ (Nat.le_of_ble_eq_true rfl) dX12_root_17 (fun x5 h => ?_)
      refine v_if_ne (tgt := 26) dX12_root_20 (by decide) (fun c6 => ?_) (fun c6 => ?_)
      · replace h := b_wp_f c6 h
        obtain ⟨g7, h⟩ := b_wp_g h
        refine v_aload_n (f := 0) 0 rfl dX12_root_26 ?_
        refine v_getR (kf := 26) (kz := 26) rfl kd_11 rfl ⟨by decide, by decide⟩ rfl wf_12_51 dX12_root_27 ?_
        refine v_iload_n (f := 1) 1 rfl dX12_root_30 ?_
        refine v_laload kd_174 g7 (by decide) dX12_root_31 ?_
        refine v_lconst1 dX12_root_32 ?_
        refine v_iload_n (f := 1) 1 rfl dX12_root_33 ?_
        refine v_lshl (v := j_shl _ _) rfl dX12_root_34 ?_
        refine v_lcmpN dX12_root_35 ?_
        refine v_if_ne (tgt := 49) dX12_root_36 (by decide) (fun c8 => ?_) (fun c8 => ?_)
        · replace h := b_wp_f c8 h
          refine v_bipush ⟨by decide, by decide⟩ (by decide) dX12_root_49 ?_
          refine v_ireturn rfl dX12_root_51 ⟨by decide, by decide⟩ ?_
          exact ⟨_, rfl, h⟩
        · replace h := b_wp_t c8 h
          obtain ⟨g9, h⟩ := b_wp_g h
          refine v_aload_n (f := 0) 0 rfl dX12_root_39 ?_
          refine v_getR (kf := 78) (kz := 78) rfl kd_11 rfl ⟨by decide, by decide⟩ rfl wf_12_185 dX12_root_40 ?_
          refine v_iload_n (f := 1) 1 rfl dX12_root_43 ?_
          refine v_iaload kd_217 g9 (by decide) dX12_root_44 ?_
          refine v_iconst ⟨by decide, by decide⟩ dX12_root_45 ?_
          refine v_icmp_eq (tgt := 52) dX12_root_46 (by decide) (fun c10 => ?_) (fun c10 => ?_)
          · replace h := b_wp_t c10 h
            obtain ⟨g11, h⟩ := b_wp_g h
            refine v_aload_n (f := 0) 0 rfl dX12_root_52 ?_
            refine v_getR (kf := 78) (kz := 78) rfl kd_11 rfl ⟨by decide, by decide⟩ rfl wf_12_185 dX12_root_53 ?_
            refine v_iload_n (f := 1) 1 rfl dX12_root_56 ?_
            refine v_iload_n (f := 2) 2 rfl dX12_root_57 ?_
            refine v_iastore kd_217 g11 (by decide) dX12_root_58 ?_
            replace h := b_wp_l h
            obtain ⟨g13, h⟩ := b_wp_g h
            refine v_aload_n (f := 0) 0 rfl dX12_root_59 ?_
            refine v_getR (kf := 79) (kz := 79) rfl kd_11 rfl ⟨by decide, by decide⟩ rfl wf_12_188 dX12_root_60 ?_
            refine v_iload_n (f := 1) 1 rfl dX12_root_63 ?_
            refine v_iload_n (f := 3) 3 rfl dX12_root_64 ?_
            refine v_iastore kd_218 g13 (by decide) dX12_root_65 ?_
            replace h := b_wp_l h
            refine v_iconst ⟨by decide, by decide⟩ dX12_root_66 ?_
            refine v_ireturn rfl dX12_root_67 ⟨by decide, by decide⟩ ?_
            exact ⟨_, rfl, h⟩
          · replace h := b_wp_f c10 h
            refine v_bipush ⟨by decide, by decide⟩ (by decide) dX12_root_49 ?_
            refine v_ireturn rfl dX12_root_51 ⟨by decide, by decide⟩ ?_
            exact ⟨_, rfl, h⟩
      · replace h := b_wp_t c6 h
        refine v_bipush ⟨by decide, by decide⟩ (by decide) dX12_root_23 ?_
        refine v_ireturn rfl dX12_root_25 ⟨by decide, by decide⟩ ?_
        exact ⟨_, rfl, h⟩
theorem cf_X12_root {l : Launch} {E : bE} {M : bM} {v1 : Int} {v2 : Int} {v3 : Int} {Q : (Int × bM) → Prop} (h : b_wp (F_X12_root v1 v2 v3 M) Q) : b_C l E xX12_root yX12_root [bR 11, bI v1, bI v2, bI v3] M (b_pI Q) := b_met (by decide) ⟨rfl, rfl⟩ (Nat.le_of_ble_eq_true rfl) (fun _ _ => t_X12_root h)
abbrev xX12_isLink : bX := ("BurntHallModel", prog_14_method_91_code, 2, (Option.some Jvm.ClassFile.FieldType.boolean), b_rm 1 0 0, 0, "isLink")
abbrev yX12_isLink : MethodName := ⟨"BurntHallModel", "isLink", "(I)Z"⟩
theorem dX12_isLink_0 : decode prog_14_method_91_code 0 = .ok (.aload_n 0, 1) := by decide +kernel
theorem dX12_isLink_1 : decode prog_14_method_91_code 1 = .ok (.getfield 161, 3) := by decide +kernel
theorem dX12_isLink_4 : decode prog_14_method_91_code 4 = .ok (.iconst 3, 1) := by decide +kernel
theorem dX12_isLink_5 : decode prog_14_method_91_code 5 = .ok (.iload_n 1, 1) := by decide +kernel
theorem dX12_isLink_6 : decode prog_14_method_91_code 6 = .ok (.imul, 1) := by decide +kernel
theorem dX12_isLink_7 : decode prog_14_method_91_code 7 = .ok (.iconst 2, 1) := by decide +kernel
theorem dX12_isLink_8 : decode prog_14_method_91_code 8 = .ok (.iadd, 1) := by decide +kernel
theorem dX12_isLink_9 : decode prog_14_method_91_code 9 = .ok (.iaload, 1) := by decide +kernel
theorem dX12_isLink_10 : decode prog_14_method_91_code 10 = .ok (.iconst (-1), 1) := by decide +kernel
theorem dX12_isLink_11 : decode prog_14_method_91_code 11 = .ok (.if_icmp .eq 43, 3) := by decide +kernel
theorem dX12_isLink_14 : decode prog_14_method_91_code 14 = .ok (.aload_n 0, 1) := by decide +kernel
theorem dX12_isLink_15 : decode prog_14_method_91_code 15 = .ok (.getfield 540, 3) := by decide +kernel
theorem dX12_isLink_18 : decode prog_14_method_91_code 18 = .ok (.aload_n 0, 1) := by decide +kernel
theorem dX12_isLink_19 : decode prog_14_method_91_code 19 = .ok (.getfield 161, 3) := by decide +kernel
theorem dX12_isLink_22 : decode prog_14_method_91_code 22 = .ok (.iconst 3, 1) := by decide +kernel
theorem dX12_isLink_23 : decode prog_14_method_91_code 23 = .ok (.iload_n 1, 1) := by decide +kernel
theorem dX12_isLink_24 : decode prog_14_method_91_code 24 = .ok (.imul, 1) := by decide +kernel
theorem dX12_isLink_25 : decode prog_14_method_91_code 25 = .ok (.iconst 2, 1) := by decide +kernel
theorem dX12_isLink_26 : decode prog_14_method_91_code 26 = .ok (.iadd, 1) := by decide +kernel
theorem dX12_isLink_27 : decode prog_14_method_91_code 27 = .ok (.iaload, 1) := by decide +kernel
theorem dX12_isLink_28 : decode prog_14_method_91_code 28 = .ok (.lshr, 1) := by decide +kernel
theorem dX12_isLink_29 : decode prog_14_method_91_code 29 = .ok (.lconst 1, 1) := by decide +kernel
theorem dX12_isLink_30 : decode prog_14_method_91_code 30 = .ok (.land, 1) := by decide +kernel
theorem dX12_isLink_31 : decode prog_14_method_91_code 31 = .ok (.lconst 1, 1) := by decide +kernel
theorem dX12_isLink_32 : decode prog_14_method_91_code 32 = .ok (.lcmp, 1) := by decide +kernel
theorem dX12_isLink_33 : decode prog_14_method_91_code 33 = .ok (.ifCond .ne 21, 3) := by decide +kernel
theorem dX12_isLink_36 : decode prog_14_method_91_code 36 = .ok (.aload_n 0, 1) := by decide +kernel
theorem dX12_isLink_37 : decode prog_14_method_91_code 37 = .ok (.getfield 161, 3) := by decide +kernel
theorem dX12_isLink_40 : decode prog_14_method_91_code 40 = .ok (.iconst 3, 1) := by decide +kernel
theorem dX12_isLink_41 : decode prog_14_method_91_code 41 = .ok (.iload_n 1, 1) := by decide +kernel
theorem dX12_isLink_42 : decode prog_14_method_91_code 42 = .ok (.imul, 1) := by decide +kernel
theorem dX12_isLink_43 : decode prog_14_method_91_code 43 = .ok (.iconst 1, 1) := by decide +kernel
theorem dX12_isLink_44 : decode prog_14_method_91_code 44 = .ok (.iadd, 1) := by decide +kernel
theorem dX12_isLink_45 : decode prog_14_method_91_code 45 = .ok (.iaload, 1) := by decide +kernel
theorem dX12_isLink_46 : decode prog_14_method_91_code 46 = .ok (.iconst (-1), 1) := by decide +kernel
theorem dX12_isLink_47 : decode prog_14_method_91_code 47 = .ok (.if_icmp .eq 7, 3) := by decide +kernel
theorem dX12_isLink_50 : decode prog_14_method_91_code 50 = .ok (.iconst 1, 1) := by decide +kernel
theorem dX12_isLink_51 : decode prog_14_method_91_code 51 = .ok (.goto 4, 3) := by decide +kernel
theorem dX12_isLink_54 : decode prog_14_method_91_code 54 = .ok (.iconst 0, 1) := by decide +kernel
theorem dX12_isLink_55 : decode prog_14_method_91_code 55 = .ok (.ireturn, 1) := by decide +kernel
noncomputable def F_X12_isLink (v1 : Int) (M : bM) : Option (Int) :=
  b_g ((b_i32 (3 * v1)) ∧ (b_i32 ((3 * v1) + 2)) ∧ (0 ≤ ((3 * v1) + 2) ∧ ((3 * v1) + 2) < 90)) (if (M 209 ((3 * v1) + 2)) = (-1) then (some 0) else (b_g ((b_i32 (3 * v1)) ∧ (b_i32 ((3 * v1) + 2)) ∧ (0 ≤ ((3 * v1) + 2) ∧ ((3 * v1) + 2) < 90)) (if (j_cmp (j_and (j_shr (M 11 82) (M 209 ((3 * v1) + 2))) 1) 1) = 0 then (b_g ((b_i32 (3 * v1)) ∧ (b_i32 ((3 * v1) + 1)) ∧ (0 ≤ ((3 * v1) + 1) ∧ ((3 * v1) + 1) < 90)) (if (M 209 ((3 * v1) + 1)) = (-1) then (some 0) else (some 1))) else (some 0))))
theorem t_X12_isLink {l : Launch} {E : bE} {Q : Int → Prop} {v1 : Int} {M : bM} (h : b_wp (F_X12_isLink v1 M) (Q)) : V l E xX12_isLink (0, 0) 0 [(0, bR 11), (1, bI v1)] [] M (b_pIp M Q) := by
  unfold F_X12_isLink at h
  obtain ⟨⟨g1, g2, g3⟩, h⟩ := b_wp_g h
  refine v_aload_n (f := 0) 0 rfl dX12_isLink_0 ?_
  refine v_getR (kf := 70) (kz := 70) rfl kd_11 rfl ⟨by decide, by decide⟩ rfl wf_12_161 dX12_isLink_1 ?_
  refine v_iconst ⟨by decide, by decide⟩ dX12_isLink_4 ?_
  refine v_iload_n (f := 1) 1 rfl dX12_isLink_5 ?_
  refine v_imulN g1 dX12_isLink_6 ?_
  refine v_iconst ⟨by decide, by decide⟩ dX12_isLink_7 ?_
  refine v_iaddN g2 dX12_isLink_8 ?_
  refine v_iaload kd_209 g3 (by decide) dX12_isLink_9 ?_
  refine v_iconst ⟨by decide, by decide⟩ dX12_isLink_10 ?_
  refine v_icmp_eq (tgt := 54) dX12_isLink_11 (by decide) (fun c4 => ?_) (fun c4 => ?_)
  · replace h := b_wp_t c4 h
    refine v_iconst ⟨by decide, by decide⟩ dX12_isLink_54 ?_
    refine v_zreturn rfl (Or.inl rfl) dX12_isLink_55 ⟨by decide, by decide⟩ ?_
    exact ⟨_, rfl, rfl, h⟩
  · replace h := b_wp_f c4 h
    obtain ⟨⟨g5, g6, g7⟩, h⟩ := b_wp_g h
    refine v_aload_n (f := 0) 0 rfl dX12_isLink_14 ?_
    refine v_getJ (kf := 82) (kz := 82) rfl kd_11 rfl ⟨by decide, by decide⟩ rfl wf_12_540 dX12_isLink_15 ?_
    refine v_aload_n (f := 0) 0 rfl dX12_isLink_18 ?_
    refine v_getR (kf := 70) (kz := 70) rfl kd_11 rfl ⟨by decide, by decide⟩ rfl wf_12_161 dX12_isLink_19 ?_
    refine v_iconst ⟨by decide, by decide⟩ dX12_isLink_22 ?_
    refine v_iload_n (f := 1) 1 rfl dX12_isLink_23 ?_
    refine v_imulN g5 dX12_isLink_24 ?_
    refine v_iconst ⟨by decide, by decide⟩ dX12_isLink_25 ?_
    refine v_iaddN g6 dX12_isLink_26 ?_
    refine v_iaload kd_209 g7 (by decide) dX12_isLink_27 ?_
    refine v_lshr (v := j_shr _ _) rfl dX12_isLink_28 ?_
    refine v_lconst1 dX12_isLink_29 ?_
    refine v_land (v := j_and _ _) rfl dX12_isLink_30 ?_
    refine v_lconst1 dX12_isLink_31 ?_
    refine v_lcmpN dX12_isLink_32 ?_
    refine v_if_ne (tgt := 54) dX12_isLink_33 (by decide) (fun c8 => ?_) (fun c8 => ?_)
    · replace h := b_wp_f c8 h
      refine v_iconst ⟨by decide, by decide⟩ dX12_isLink_54 ?_
      refine v_zreturn rfl (Or.inl rfl) dX12_isLink_55 ⟨by decide, by decide⟩ ?_
      exact ⟨_, rfl, rfl, h⟩
    · replace h := b_wp_t c8 h
      obtain ⟨⟨g9, g10, g11⟩, h⟩ := b_wp_g h
      refine v_aload_n (f := 0) 0 rfl dX12_isLink_36 ?_
      refine v_getR (kf := 70) (kz := 70) rfl kd_11 rfl ⟨by decide, by decide⟩ rfl wf_12_161 dX12_isLink_37 ?_
      refine v_iconst ⟨by decide, by decide⟩ dX12_isLink_40 ?_
      refine v_iload_n (f := 1) 1 rfl dX12_isLink_41 ?_
      refine v_imulN g9 dX12_isLink_42 ?_
      refine v_iconst ⟨by decide, by decide⟩ dX12_isLink_43 ?_
      refine v_iaddN g10 dX12_isLink_44 ?_
      refine v_iaload kd_209 g11 (by decide) dX12_isLink_45 ?_
      refine v_iconst ⟨by decide, by decide⟩ dX12_isLink_46 ?_
      refine v_icmp_eq (tgt := 54) dX12_isLink_47 (by decide) (fun c12 => ?_) (fun c12 => ?_)
      · replace h := b_wp_t c12 h
        refine v_iconst ⟨by decide, by decide⟩ dX12_isLink_54 ?_
        refine v_zreturn rfl (Or.inl rfl) dX12_isLink_55 ⟨by decide, by decide⟩ ?_
        exact ⟨_, rfl, rfl, h⟩
      · replace h := b_wp_f c12 h
        refine v_iconst ⟨by decide, by decide⟩ dX12_isLink_50 ?_
        refine v_goto (tgt := 55) dX12_isLink_51 (by decide) ?_
        refine v_zreturn rfl (Or.inr rfl) dX12_isLink_55 ⟨by decide, by decide⟩ ?_
        exact ⟨_, rfl, rfl, h⟩
theorem cf_X12_isLink {l : Launch} {E : bE} {M : bM} {v1 : Int} {Q : Int → Prop} (h : b_wp (F_X12_isLink v1 M) Q) : b_C l E xX12_isLink yX12_isLink [bR 11, bI v1] M (b_pIp M Q) := b_met (by decide) ⟨rfl, rfl⟩ (Nat.le_of_ble_eq_true rfl) (fun _ _ => t_X12_isLink h)
abbrev xX12_isNext : bX := ("BurntHallModel", prog_14_method_92_code, 5, (Option.some Jvm.ClassFile.FieldType.boolean), b_rm 2 0 0, 0, "isNext")
abbrev yX12_isNext : MethodName := ⟨"BurntHallModel", "isNext", "(II)Z"⟩
theorem dX12_isNext_0 : decode prog_14_method_92_code 0 = .ok (.aload_n 0, 1) := by decide +kernel
theorem dX12_isNext_1 : decode prog_14_method_92_code 1 = .ok (.getfield 161, 3) := by decide +kernel
theorem dX12_isNext_4 : decode prog_14_method_92_code 4 = .ok (.iconst 3, 1) := by decide +kernel
theorem dX12_isNext_5 : decode prog_14_method_92_code 5 = .ok (.iload_n 2, 1) := by decide +kernel
theorem dX12_isNext_6 : decode prog_14_method_92_code 6 = .ok (.imul, 1) := by decide +kernel
theorem dX12_isNext_7 : decode prog_14_method_92_code 7 = .ok (.iaload, 1) := by decide +kernel
theorem dX12_isNext_8 : decode prog_14_method_92_code 8 = .ok (.istore_n 3, 1) := by decide +kernel
theorem dX12_isNext_9 : decode prog_14_method_92_code 9 = .ok (.iload_n 3, 1) := by decide +kernel
theorem dX12_isNext_10 : decode prog_14_method_92_code 10 = .ok (.iconst (-1), 1) := by decide +kernel
theorem dX12_isNext_11 : decode prog_14_method_92_code 11 = .ok (.if_icmp .ne 5, 3) := by decide +kernel
theorem dX12_isNext_14 : decode prog_14_method_92_code 14 = .ok (.iconst 0, 1) := by decide +kernel
theorem dX12_isNext_15 : decode prog_14_method_92_code 15 = .ok (.ireturn, 1) := by decide +kernel
theorem dX12_isNext_16 : decode prog_14_method_92_code 16 = .ok (.aload_n 0, 1) := by decide +kernel
theorem dX12_isNext_17 : decode prog_14_method_92_code 17 = .ok (.getfield 33, 3) := by decide +kernel
theorem dX12_isNext_20 : decode prog_14_method_92_code 20 = .ok (.iload_n 1, 1) := by decide +kernel
theorem dX12_isNext_21 : decode prog_14_method_92_code 21 = .ok (.iaload, 1) := by decide +kernel
theorem dX12_isNext_22 : decode prog_14_method_92_code 22 = .ok (.aload_n 0, 1) := by decide +kernel
theorem dX12_isNext_23 : decode prog_14_method_92_code 23 = .ok (.getfield 33, 3) := by decide +kernel
theorem dX12_isNext_26 : decode prog_14_method_92_code 26 = .ok (.iload_n 3, 1) := by decide +kernel
theorem dX12_isNext_27 : decode prog_14_method_92_code 27 = .ok (.iaload, 1) := by decide +kernel
theorem dX12_isNext_28 : decode prog_14_method_92_code 28 = .ok (.if_icmp .ne 5, 3) := by decide +kernel
theorem dX12_isNext_31 : decode prog_14_method_92_code 31 = .ok (.iconst 1, 1) := by decide +kernel
theorem dX12_isNext_32 : decode prog_14_method_92_code 32 = .ok (.ireturn, 1) := by decide +kernel
theorem dX12_isNext_33 : decode prog_14_method_92_code 33 = .ok (.aload_n 0, 1) := by decide +kernel
theorem dX12_isNext_34 : decode prog_14_method_92_code 34 = .ok (.getfield 543, 3) := by decide +kernel
theorem dX12_isNext_37 : decode prog_14_method_92_code 37 = .ok (.ifCond .eq 16, 3) := by decide +kernel
theorem dX12_isNext_40 : decode prog_14_method_92_code 40 = .ok (.aload_n 0, 1) := by decide +kernel
theorem dX12_isNext_41 : decode prog_14_method_92_code 41 = .ok (.iload_n 1, 1) := by decide +kernel
theorem dX12_isNext_42 : decode prog_14_method_92_code 42 = .ok (.iload_n 3, 1) := by decide +kernel
theorem dX12_isNext_43 : decode prog_14_method_92_code 43 = .ok (.aload_n 0, 1) := by decide +kernel
theorem dX12_isNext_44 : decode prog_14_method_92_code 44 = .ok (.getfield 547, 3) := by decide +kernel
theorem dX12_isNext_47 : decode prog_14_method_92_code 47 = .ok (.invokevirtual 550, 3) := by decide +kernel
theorem dX12_isNext_50 : decode prog_14_method_92_code 50 = .ok (.ifCond .ne 5, 3) := by decide +kernel
theorem dX12_isNext_53 : decode prog_14_method_92_code 53 = .ok (.iconst 0, 1) := by decide +kernel
theorem dX12_isNext_54 : decode prog_14_method_92_code 54 = .ok (.ireturn, 1) := by decide +kernel
theorem dX12_isNext_55 : decode prog_14_method_92_code 55 = .ok (.aload_n 0, 1) := by decide +kernel
theorem dX12_isNext_56 : decode prog_14_method_92_code 56 = .ok (.iload_n 1, 1) := by decide +kernel
theorem dX12_isNext_57 : decode prog_14_method_92_code 57 = .ok (.aload_n 0, 1) := by decide +kernel
theorem dX12_isNext_58 : decode prog_14_method_92_code 58 = .ok (.getfield 547, 3) := by decide +kernel
theorem dX12_isNext_61 : decode prog_14_method_92_code 61 = .ok (.invokevirtual 371, 3) := by decide +kernel
theorem dX12_isNext_64 : decode prog_14_method_92_code 64 = .ok (.istore 4, 2) := by decide +kernel
theorem dX12_isNext_66 : decode prog_14_method_92_code 66 = .ok (.iload 4, 2) := by decide +kernel
theorem dX12_isNext_68 : decode prog_14_method_92_code 68 = .ok (.iconst (-1), 1) := by decide +kernel
theorem dX12_isNext_69 : decode prog_14_method_92_code 69 = .ok (.if_icmp .eq 18, 3) := by decide +kernel
theorem dX12_isNext_72 : decode prog_14_method_92_code 72 = .ok (.iload 4, 2) := by decide +kernel
theorem dX12_isNext_74 : decode prog_14_method_92_code 74 = .ok (.aload_n 0, 1) := by decide +kernel
theorem dX12_isNext_75 : decode prog_14_method_92_code 75 = .ok (.getfield 170, 3) := by decide +kernel
theorem dX12_isNext_78 : decode prog_14_method_92_code 78 = .ok (.iload_n 2, 1) := by decide +kernel
theorem dX12_isNext_79 : decode prog_14_method_92_code 79 = .ok (.iaload, 1) := by decide +kernel
theorem dX12_isNext_80 : decode prog_14_method_92_code 80 = .ok (.if_icmp .gt 7, 3) := by decide +kernel
theorem dX12_isNext_83 : decode prog_14_method_92_code 83 = .ok (.iconst 1, 1) := by decide +kernel
theorem dX12_isNext_84 : decode prog_14_method_92_code 84 = .ok (.goto 4, 3) := by decide +kernel
theorem dX12_isNext_87 : decode prog_14_method_92_code 87 = .ok (.iconst 0, 1) := by decide +kernel
theorem dX12_isNext_88 : decode prog_14_method_92_code 88 = .ok (.ireturn, 1) := by decide +kernel
noncomputable def F_X12_isNext (v1 : Int) (v2 : Int) (M : bM) : Option (Int) :=
  b_g ((b_i32 (3 * v2)) ∧ (0 ≤ (3 * v2) ∧ (3 * v2) < 90)) (b_let ((M 209 (3 * v2))) (fun y3 => if y3 = (-1) then (some 0) else (b_g ((0 ≤ v1 ∧ v1 < 80) ∧ (0 ≤ y3 ∧ y3 < 80)) (if (M 168 v1) = (M 168 y3) then (some 1) else (if (M 11 80) = 0 then (some 0) else (b_bind (F_X12_isChild v1 y3 (M 11 81) M) (fun x9 => if x9 = 0 then (some 0) else (b_bind (F_X12_deadOf v1 (M 11 81) M) (fun x11 => if x11 = (-1) then (some 0) else (b_g (0 ≤ v2 ∧ v2 < 30) (if (M 212 v2) < x11 then (some 0) else (some 1))))))))))))
theorem t_X12_isNext {l : Launch} {E : bE} {Q : Int → Prop} {v1 : Int} {v2 : Int} {M : bM} (h : b_wp (F_X12_isNext v1 v2 M) (Q)) : V l E xX12_isNext (0, 0) 0 [(0, bR 11), (1, bI v1), (2, bI v2)] [] M (b_pIp M Q) := by
  unfold F_X12_isNext at h
  obtain ⟨⟨g1, g2⟩, h⟩ := b_wp_g h
  refine v_aload_n (f := 0) 0 rfl dX12_isNext_0 ?_
  refine v_getR (kf := 70) (kz := 70) rfl kd_11 rfl ⟨by decide, by decide⟩ rfl wf_12_161 dX12_isNext_1 ?_
  refine v_iconst ⟨by decide, by decide⟩ dX12_isNext_4 ?_
  refine v_iload_n (f := 2) 2 rfl dX12_isNext_5 ?_
  refine v_imulN g1 dX12_isNext_6 ?_
  refine v_iaload kd_209 g2 (by decide) dX12_isNext_7 ?_
  replace h := b_wp_l h
  refine v_istore_n (g := 3) (i := 3) (ls' := [(3, bI _), (0, bR _), (1, bI _), (2, bI _)]) rfl (by decide) dX12_isNext_8 rfl ?_
  refine v_iload_n (f := 3) 0 rfl dX12_isNext_9 ?_
  refine v_iconst ⟨by decide, by decide⟩ dX12_isNext_10 ?_
  refine v_icmp_ne (tgt := 16) dX12_isNext_11 (by decide) (fun c4 => ?_) (fun c4 => ?_)
  · replace h := b_wp_f c4 h
    obtain ⟨⟨g5, g6⟩, h⟩ := b_wp_g h
    refine v_aload_n (f := 0) 1 rfl dX12_isNext_16 ?_
    refine v_getR (kf := 19) (kz := 19) rfl kd_11 rfl ⟨by decide, by decide⟩ rfl wf_12_33 dX12_isNext_17 ?_
    refine v_iload_n (f := 1) 2 rfl dX12_isNext_20 ?_
    refine v_iaload kd_168 g5 (by decide) dX12_isNext_21 ?_
    refine v_aload_n (f := 0) 1 rfl dX12_isNext_22 ?_
    refine v_getR (kf := 19) (kz := 19) rfl kd_11 rfl ⟨by decide, by decide⟩ rfl wf_12_33 dX12_isNext_23 ?_
    refine v_iload_n (f := 3) 0 rfl dX12_isNext_26 ?_
    refine v_iaload kd_168 g6 (by decide) dX12_isNext_27 ?_
    refine v_icmp_ne (tgt := 33) dX12_isNext_28 (by decide) (fun c7 => ?_) (fun c7 => ?_)
    · replace h := b_wp_f c7 h
      refine v_aload_n (f := 0) 1 rfl dX12_isNext_33 ?_
      refine v_getI (kf := 80) (kz := 80) rfl kd_11 rfl ⟨by decide, by decide⟩ rfl wf_12_543 dX12_isNext_34 ?_
      refine v_if_eq (tgt := 53) dX12_isNext_37 (by decide) (fun c8 => ?_) (fun c8 => ?_)
      · replace h := b_wp_t c8 h
        refine v_iconst ⟨by decide, by decide⟩ dX12_isNext_53 ?_
        refine v_zreturn rfl (Or.inl rfl) dX12_isNext_54 ⟨by decide, by decide⟩ ?_
        exact ⟨_, rfl, rfl, h⟩
      · replace h := b_wp_f c8 h
        refine v_aload_n (f := 0) 1 rfl dX12_isNext_40 ?_
        refine v_iload_n (f := 1) 2 rfl dX12_isNext_41 ?_
        refine v_iload_n (f := 3) 0 rfl dX12_isNext_42 ?_
        refine v_aload_n (f := 0) 1 rfl dX12_isNext_43 ?_
        refine v_getI (kf := 81) (kz := 81) rfl kd_11 rfl ⟨by decide, by decide⟩ rfl wf_12_547 dX12_isNext_44 ?_
        refine v_cVIp (nA := 3) (As := [bI _, bI _, bI _]) (ix := 550) (cf_X12_isChild (b_wp_b h)) rfl kd_11 rfl rfl wc_X12_isChild wm_12_550 wi_X12_isChild ws_X12_isChild wn_12 ⟨by decide, by decide, by decide⟩ rfl ⟨by decide, by decide⟩ ⟨by decide, by decide⟩ (Nat.le_of_ble_eq_true rfl) dX12_isNext_47 (fun x9 h => ?_)
        refine v_if_ne (tgt := 55) dX12_isNext_50 (by decide) (fun c10 => ?_) (fun c10 => ?_)
        · replace h := b_wp_f c10 h
          refine v_aload_n (f := 0) 1 rfl dX12_isNext_55 ?_
          refine v_iload_n (f := 1) 2 rfl dX12_isNext_56 ?_
          refine v_aload_n (f := 0) 1 rfl dX12_isNext_57 ?_
          refine v_getI (kf := 81) (kz := 81) rfl kd_11 rfl ⟨by decide, by decide⟩ rfl wf_12_547 dX12_isNext_58 ?_
          refine v_cVIp (nA := 2) (As := [bI _, bI _]) (ix := 371) (cf_X12_deadOf (b_wp_b h)) rfl kd_11 rfl rfl wc_X12_deadOf wm_12_371 wi_X12_deadOf ws_X12_deadOf wn_12 ⟨by decide, by decide, by decide⟩ rfl ⟨by decide, by decide⟩ ⟨by decide, by decide⟩ (Nat.le_of_ble_eq_true rfl) dX12_isNext_61 (fun x11 h => ?_)
          refine v_istore (i := 4) (ls' := [(4, bI _), (3, bI _), (0, bR _), (1, bI _), (2, bI _)]) (by decide) dX12_isNext_64 rfl ?_
          refine v_iload (i := 4) 0 rfl dX12_isNext_66 ?_
          refine v_iconst ⟨by decide, by decide⟩ dX12_isNext_68 ?_
          refine v_icmp_eq (tgt := 87) dX12_isNext_69 (by decide) (fun c12 => ?_) (fun c12 => ?_)
          · replace h := b_wp_t c12 h
            refine v_iconst ⟨by decide, by decide⟩ dX12_isNext_87 ?_
            refine v_zreturn rfl (Or.inl rfl) dX12_isNext_88 ⟨by decide, by decide⟩ ?_
            exact ⟨_, rfl, rfl, h⟩
          · replace h := b_wp_f c12 h
            obtain ⟨g13, h⟩ := b_wp_g h
            refine v_iload (i := 4) 0 rfl dX12_isNext_72 ?_
            refine v_aload_n (f := 0) 2 rfl dX12_isNext_74 ?_
            refine v_getR (kf := 73) (kz := 73) rfl kd_11 rfl ⟨by decide, by decide⟩ rfl wf_12_170 dX12_isNext_75 ?_
            refine v_iload_n (f := 2) 4 rfl dX12_isNext_78 ?_
            refine v_iaload kd_212 g13 (by decide) dX12_isNext_79 ?_
            refine v_icmp_gt (tgt := 87) dX12_isNext_80 (by decide) (fun c14 => ?_) (fun c14 => ?_)
            · replace h := b_wp_t c14 h
              refine v_iconst ⟨by decide, by decide⟩ dX12_isNext_87 ?_
              refine v_zreturn rfl (Or.inl rfl) dX12_isNext_88 ⟨by decide, by decide⟩ ?_
              exact ⟨_, rfl, rfl, h⟩
            · replace h := b_wp_f c14 h
              refine v_iconst ⟨by decide, by decide⟩ dX12_isNext_83 ?_
              refine v_goto (tgt := 88) dX12_isNext_84 (by decide) ?_
              refine v_zreturn rfl (Or.inr rfl) dX12_isNext_88 ⟨by decide, by decide⟩ ?_
              exact ⟨_, rfl, rfl, h⟩
        · replace h := b_wp_t c10 h
          refine v_iconst ⟨by decide, by decide⟩ dX12_isNext_53 ?_
          refine v_zreturn rfl (Or.inl rfl) dX12_isNext_54 ⟨by decide, by decide⟩ ?_
          exact ⟨_, rfl, rfl, h⟩
    · replace h := b_wp_t c7 h
      refine v_iconst ⟨by decide, by decide⟩ dX12_isNext_31 ?_
      refine v_zreturn rfl (Or.inr rfl) dX12_isNext_32 ⟨by decide, by decide⟩ ?_
      exact ⟨_, rfl, rfl, h⟩
  · replace h := b_wp_t c4 h
    refine v_iconst ⟨by decide, by decide⟩ dX12_isNext_14 ?_
    refine v_zreturn rfl (Or.inl rfl) dX12_isNext_15 ⟨by decide, by decide⟩ ?_
    exact ⟨_, rfl, rfl, h⟩
theorem cf_X12_isNext {l : Launch} {E : bE} {M : bM} {v1 : Int} {v2 : Int} {Q : Int → Prop} (h : b_wp (F_X12_isNext v1 v2 M) Q) : b_C l E xX12_isNext yX12_isNext [bR 11, bI v1, bI v2] M (b_pIp M Q) := b_met (by decide) ⟨rfl, rfl⟩ (Nat.le_of_ble_eq_true rfl) (fun _ _ => t_X12_isNext h)
abbrev xX12_isRoot : bX := ("BurntHallModel", prog_14_method_95_code, 2, (Option.some Jvm.ClassFile.FieldType.boolean), b_rm 1 0 0, 0, "isRoot")
abbrev yX12_isRoot : MethodName := ⟨"BurntHallModel", "isRoot", "(I)Z"⟩
theorem dX12_isRoot_0 : decode prog_14_method_95_code 0 = .ok (.aload_n 0, 1) := by decide +kernel
theorem dX12_isRoot_1 : decode prog_14_method_95_code 1 = .ok (.getfield 185, 3) := by decide +kernel
theorem dX12_isRoot_4 : decode prog_14_method_95_code 4 = .ok (.iload_n 1, 1) := by decide +kernel
theorem dX12_isRoot_5 : decode prog_14_method_95_code 5 = .ok (.iaload, 1) := by decide +kernel
theorem dX12_isRoot_6 : decode prog_14_method_95_code 6 = .ok (.iconst (-1), 1) := by decide +kernel
theorem dX12_isRoot_7 : decode prog_14_method_95_code 7 = .ok (.if_icmp .eq 20, 3) := by decide +kernel
theorem dX12_isRoot_10 : decode prog_14_method_95_code 10 = .ok (.aload_n 0, 1) := by decide +kernel
theorem dX12_isRoot_11 : decode prog_14_method_95_code 11 = .ok (.getfield 540, 3) := by decide +kernel
theorem dX12_isRoot_14 : decode prog_14_method_95_code 14 = .ok (.iload_n 1, 1) := by decide +kernel
theorem dX12_isRoot_15 : decode prog_14_method_95_code 15 = .ok (.lshr, 1) := by decide +kernel
theorem dX12_isRoot_16 : decode prog_14_method_95_code 16 = .ok (.lconst 1, 1) := by decide +kernel
theorem dX12_isRoot_17 : decode prog_14_method_95_code 17 = .ok (.land, 1) := by decide +kernel
theorem dX12_isRoot_18 : decode prog_14_method_95_code 18 = .ok (.lconst 1, 1) := by decide +kernel
theorem dX12_isRoot_19 : decode prog_14_method_95_code 19 = .ok (.lcmp, 1) := by decide +kernel
theorem dX12_isRoot_20 : decode prog_14_method_95_code 20 = .ok (.ifCond .ne 7, 3) := by decide +kernel
theorem dX12_isRoot_23 : decode prog_14_method_95_code 23 = .ok (.iconst 1, 1) := by decide +kernel
theorem dX12_isRoot_24 : decode prog_14_method_95_code 24 = .ok (.goto 4, 3) := by decide +kernel
theorem dX12_isRoot_27 : decode prog_14_method_95_code 27 = .ok (.iconst 0, 1) := by decide +kernel
theorem dX12_isRoot_28 : decode prog_14_method_95_code 28 = .ok (.ireturn, 1) := by decide +kernel
noncomputable def F_X12_isRoot (v1 : Int) (M : bM) : Option (Int) :=
  b_g (0 ≤ v1 ∧ v1 < 60) (if (M 217 v1) = (-1) then (some 0) else (if (j_cmp (j_and (j_shr (M 11 82) v1) 1) 1) = 0 then (some 1) else (some 0)))
theorem t_X12_isRoot {l : Launch} {E : bE} {Q : Int → Prop} {v1 : Int} {M : bM} (h : b_wp (F_X12_isRoot v1 M) (Q)) : V l E xX12_isRoot (0, 0) 0 [(0, bR 11), (1, bI v1)] [] M (b_pIp M Q) := by
  unfold F_X12_isRoot at h
  obtain ⟨g1, h⟩ := b_wp_g h
  refine v_aload_n (f := 0) 0 rfl dX12_isRoot_0 ?_
  refine v_getR (kf := 78) (kz := 78) rfl kd_11 rfl ⟨by decide, by decide⟩ rfl wf_12_185 dX12_isRoot_1 ?_
  refine v_iload_n (f := 1) 1 rfl dX12_isRoot_4 ?_
  refine v_iaload kd_217 g1 (by decide) dX12_isRoot_5 ?_
  refine v_iconst ⟨by decide, by decide⟩ dX12_isRoot_6 ?_
  refine v_icmp_eq (tgt := 27) dX12_isRoot_7 (by decide) (fun c2 => ?_) (fun c2 => ?_)
  · replace h := b_wp_t c2 h
    refine v_iconst ⟨by decide, by decide⟩ dX12_isRoot_27 ?_
    refine v_zreturn rfl (Or.inl rfl) dX12_isRoot_28 ⟨by decide, by decide⟩ ?_
    exact ⟨_, rfl, rfl, h⟩
  · replace h := b_wp_f c2 h
    refine v_aload_n (f := 0) 0 rfl dX12_isRoot_10 ?_
    refine v_getJ (kf := 82) (kz := 82) rfl kd_11 rfl ⟨by decide, by decide⟩ rfl wf_12_540 dX12_isRoot_11 ?_
    refine v_iload_n (f := 1) 1 rfl dX12_isRoot_14 ?_
    refine v_lshr (v := j_shr _ _) rfl dX12_isRoot_15 ?_
    refine v_lconst1 dX12_isRoot_16 ?_
    refine v_land (v := j_and _ _) rfl dX12_isRoot_17 ?_
    refine v_lconst1 dX12_isRoot_18 ?_
    refine v_lcmpN dX12_isRoot_19 ?_
    refine v_if_ne (tgt := 27) dX12_isRoot_20 (by decide) (fun c3 => ?_) (fun c3 => ?_)
    · replace h := b_wp_f c3 h
      refine v_iconst ⟨by decide, by decide⟩ dX12_isRoot_27 ?_
      refine v_zreturn rfl (Or.inl rfl) dX12_isRoot_28 ⟨by decide, by decide⟩ ?_
      exact ⟨_, rfl, rfl, h⟩
    · replace h := b_wp_t c3 h
      refine v_iconst ⟨by decide, by decide⟩ dX12_isRoot_23 ?_
      refine v_goto (tgt := 28) dX12_isRoot_24 (by decide) ?_
      refine v_zreturn rfl (Or.inr rfl) dX12_isRoot_28 ⟨by decide, by decide⟩ ?_
      exact ⟨_, rfl, rfl, h⟩
theorem cf_X12_isRoot {l : Launch} {E : bE} {M : bM} {v1 : Int} {Q : Int → Prop} (h : b_wp (F_X12_isRoot v1 M) Q) : b_C l E xX12_isRoot yX12_isRoot [bR 11, bI v1] M (b_pIp M Q) := b_met (by decide) ⟨rfl, rfl⟩ (Nat.le_of_ble_eq_true rfl) (fun _ _ => t_X12_isRoot h)
abbrev xX12_isEnd : bX := ("BurntHallModel", prog_14_method_94_code, 2, (Option.some Jvm.ClassFile.FieldType.boolean), b_rm 2 0 0, 0, "isEnd")
abbrev yX12_isEnd : MethodName := ⟨"BurntHallModel", "isEnd", "(I)Z"⟩
theorem dX12_isEnd_0 : decode prog_14_method_94_code 0 = .ok (.aload_n 0, 1) := by decide +kernel
theorem dX12_isEnd_1 : decode prog_14_method_94_code 1 = .ok (.getfield 33, 3) := by decide +kernel
theorem dX12_isEnd_4 : decode prog_14_method_94_code 4 = .ok (.iload_n 1, 1) := by decide +kernel
theorem dX12_isEnd_5 : decode prog_14_method_94_code 5 = .ok (.iaload, 1) := by decide +kernel
theorem dX12_isEnd_6 : decode prog_14_method_94_code 6 = .ok (.aload_n 0, 1) := by decide +kernel
theorem dX12_isEnd_7 : decode prog_14_method_94_code 7 = .ok (.getfield 33, 3) := by decide +kernel
theorem dX12_isEnd_10 : decode prog_14_method_94_code 10 = .ok (.aload_n 0, 1) := by decide +kernel
theorem dX12_isEnd_11 : decode prog_14_method_94_code 11 = .ok (.getfield 565, 3) := by decide +kernel
theorem dX12_isEnd_14 : decode prog_14_method_94_code 14 = .ok (.iaload, 1) := by decide +kernel
theorem dX12_isEnd_15 : decode prog_14_method_94_code 15 = .ok (.if_icmp .eq 39, 3) := by decide +kernel
theorem dX12_isEnd_18 : decode prog_14_method_94_code 18 = .ok (.aload_n 0, 1) := by decide +kernel
theorem dX12_isEnd_19 : decode prog_14_method_94_code 19 = .ok (.getfield 543, 3) := by decide +kernel
theorem dX12_isEnd_22 : decode prog_14_method_94_code 22 = .ok (.ifCond .eq 36, 3) := by decide +kernel
theorem dX12_isEnd_25 : decode prog_14_method_94_code 25 = .ok (.aload_n 0, 1) := by decide +kernel
theorem dX12_isEnd_26 : decode prog_14_method_94_code 26 = .ok (.iload_n 1, 1) := by decide +kernel
theorem dX12_isEnd_27 : decode prog_14_method_94_code 27 = .ok (.aload_n 0, 1) := by decide +kernel
theorem dX12_isEnd_28 : decode prog_14_method_94_code 28 = .ok (.getfield 547, 3) := by decide +kernel
theorem dX12_isEnd_31 : decode prog_14_method_94_code 31 = .ok (.invokevirtual 371, 3) := by decide +kernel
theorem dX12_isEnd_34 : decode prog_14_method_94_code 34 = .ok (.iconst (-1), 1) := by decide +kernel
theorem dX12_isEnd_35 : decode prog_14_method_94_code 35 = .ok (.if_icmp .eq 23, 3) := by decide +kernel
theorem dX12_isEnd_38 : decode prog_14_method_94_code 38 = .ok (.aload_n 0, 1) := by decide +kernel
theorem dX12_isEnd_39 : decode prog_14_method_94_code 39 = .ok (.iload_n 1, 1) := by decide +kernel
theorem dX12_isEnd_40 : decode prog_14_method_94_code 40 = .ok (.aload_n 0, 1) := by decide +kernel
theorem dX12_isEnd_41 : decode prog_14_method_94_code 41 = .ok (.getfield 565, 3) := by decide +kernel
theorem dX12_isEnd_44 : decode prog_14_method_94_code 44 = .ok (.aload_n 0, 1) := by decide +kernel
theorem dX12_isEnd_45 : decode prog_14_method_94_code 45 = .ok (.getfield 547, 3) := by decide +kernel
theorem dX12_isEnd_48 : decode prog_14_method_94_code 48 = .ok (.invokevirtual 550, 3) := by decide +kernel
theorem dX12_isEnd_51 : decode prog_14_method_94_code 51 = .ok (.ifCond .eq 7, 3) := by decide +kernel
theorem dX12_isEnd_54 : decode prog_14_method_94_code 54 = .ok (.iconst 1, 1) := by decide +kernel
theorem dX12_isEnd_55 : decode prog_14_method_94_code 55 = .ok (.goto 4, 3) := by decide +kernel
theorem dX12_isEnd_58 : decode prog_14_method_94_code 58 = .ok (.iconst 0, 1) := by decide +kernel
theorem dX12_isEnd_59 : decode prog_14_method_94_code 59 = .ok (.ireturn, 1) := by decide +kernel
noncomputable def F_X12_isEnd (v1 : Int) (M : bM) : Option (Int) :=
  b_g ((0 ≤ v1 ∧ v1 < 80) ∧ (0 ≤ (M 11 83) ∧ (M 11 83) < 80)) (if (M 168 v1) = (M 168 (M 11 83)) then (some 1) else (if (M 11 80) = 0 then (some 0) else (b_bind (F_X12_deadOf v1 (M 11 81) M) (fun x5 => if x5 = (-1) then (some 0) else (b_bind (F_X12_isChild v1 (M 11 83) (M 11 81) M) (fun x7 => if x7 = 0 then (some 0) else (some 1)))))))
theorem t_X12_isEnd {l : Launch} {E : bE} {Q : Int → Prop} {v1 : Int} {M : bM} (h : b_wp (F_X12_isEnd v1 M) (Q)) : V l E xX12_isEnd (0, 0) 0 [(0, bR 11), (1, bI v1)] [] M (b_pIp M Q) := by
  unfold F_X12_isEnd at h
  obtain ⟨⟨g1, g2⟩, h⟩ := b_wp_g h
  refine v_aload_n (f := 0) 0 rfl dX12_isEnd_0 ?_
  refine v_getR (kf := 19) (kz := 19) rfl kd_11 rfl ⟨by decide, by decide⟩ rfl wf_12_33 dX12_isEnd_1 ?_
  refine v_iload_n (f := 1) 1 rfl dX12_isEnd_4 ?_
  refine v_iaload kd_168 g1 (by decide) dX12_isEnd_5 ?_
  refine v_aload_n (f := 0) 0 rfl dX12_isEnd_6 ?_
  refine v_getR (kf := 19) (kz := 19) rfl kd_11 rfl ⟨by decide, by decide⟩ rfl wf_12_33 dX12_isEnd_7 ?_
  refine v_aload_n (f := 0) 0 rfl dX12_isEnd_10 ?_
  refine v_getI (kf := 83) (kz := 83) rfl kd_11 rfl ⟨by decide, by decide⟩ rfl wf_12_565 dX12_isEnd_11 ?_
  refine v_iaload kd_168 g2 (by decide) dX12_isEnd_14 ?_
  refine v_icmp_eq (tgt := 54) dX12_isEnd_15 (by decide) (fun c3 => ?_) (fun c3 => ?_)
  · replace h := b_wp_t c3 h
    refine v_iconst ⟨by decide, by decide⟩ dX12_isEnd_54 ?_
    refine v_goto (tgt := 59) dX12_isEnd_55 (by decide) ?_
    refine v_zreturn rfl (Or.inr rfl) dX12_isEnd_59 ⟨by decide, by decide⟩ ?_
    exact ⟨_, rfl, rfl, h⟩
  · replace h := b_wp_f c3 h
    refine v_aload_n (f := 0) 0 rfl dX12_isEnd_18 ?_
    refine v_getI (kf := 80) (kz := 80) rfl kd_11 rfl ⟨by decide, by decide⟩ rfl wf_12_543 dX12_isEnd_19 ?_
    refine v_if_eq (tgt := 58) dX12_isEnd_22 (by decide) (fun c4 => ?_) (fun c4 => ?_)
    · replace h := b_wp_t c4 h
      refine v_iconst ⟨by decide, by decide⟩ dX12_isEnd_58 ?_
      refine v_zreturn rfl (Or.inl rfl) dX12_isEnd_59 ⟨by decide, by decide⟩ ?_
      exact ⟨_, rfl, rfl, h⟩
    · replace h := b_wp_f c4 h
      refine v_aload_n (f := 0) 0 rfl dX12_isEnd_25 ?_
      refine v_iload_n (f := 1) 1 rfl dX12_isEnd_26 ?_
      refine v_aload_n (f := 0) 0 rfl dX12_isEnd_27 ?_
      refine v_getI (kf := 81) (kz := 81) rfl kd_11 rfl ⟨by decide, by decide⟩ rfl wf_12_547 dX12_isEnd_28 ?_
      refine v_cVIp (nA := 2) (As := [bI _, bI _]) (ix := 371) (cf_X12_deadOf (b_wp_b h)) rfl kd_11 rfl rfl wc_X12_deadOf wm_12_371 wi_X12_deadOf ws_X12_deadOf wn_12 ⟨by decide, by decide, by decide⟩ rfl ⟨by decide, by decide⟩ ⟨by decide, by decide⟩ (Nat.le_of_ble_eq_true rfl) dX12_isEnd_31 (fun x5 h => ?_)
      refine v_iconst ⟨by decide, by decide⟩ dX12_isEnd_34 ?_
      refine v_icmp_eq (tgt := 58) dX12_isEnd_35 (by decide) (fun c6 => ?_) (fun c6 => ?_)
      · replace h := b_wp_t c6 h
        refine v_iconst ⟨by decide, by decide⟩ dX12_isEnd_58 ?_
        refine v_zreturn rfl (Or.inl rfl) dX12_isEnd_59 ⟨by decide, by decide⟩ ?_
        exact ⟨_, rfl, rfl, h⟩
      · replace h := b_wp_f c6 h
        refine v_aload_n (f := 0) 0 rfl dX12_isEnd_38 ?_
        refine v_iload_n (f := 1) 1 rfl dX12_isEnd_39 ?_
        refine v_aload_n (f := 0) 0 rfl dX12_isEnd_40 ?_
        refine v_getI (kf := 83) (kz := 83) rfl kd_11 rfl ⟨by decide, by decide⟩ rfl wf_12_565 dX12_isEnd_41 ?_
        refine v_aload_n (f := 0) 0 rfl dX12_isEnd_44 ?_
        refine v_getI (kf := 81) (kz := 81) rfl kd_11 rfl ⟨by decide, by decide⟩ rfl wf_12_547 dX12_isEnd_45 ?_
        refine v_cVIp (nA := 3) (As := [bI _, bI _, bI _]) (ix := 550) (cf_X12_isChild (b_wp_b h)) rfl kd_11 rfl rfl wc_X12_isChild wm_12_550 wi_X12_isChild ws_X12_isChild wn_12 ⟨by decide, by decide, by decide⟩ rfl ⟨by decide, by decide⟩ ⟨by decide, by decide⟩ (Nat.le_of_ble_eq_true rfl) dX12_isEnd_48 (fun x7 h => ?_)
        refine v_if_eq (tgt := 58) dX12_isEnd_51 (by decide) (fun c8 => ?_) (fun c8 => ?_)
        · replace h := b_wp_t c8 h
          refine v_iconst ⟨by decide, by decide⟩ dX12_isEnd_58 ?_
          refine v_zreturn rfl (Or.inl rfl) dX12_isEnd_59 ⟨by decide, by decide⟩ ?_
          exact ⟨_, rfl, rfl, h⟩
        · replace h := b_wp_f c8 h
          refine v_iconst ⟨by decide, by decide⟩ dX12_isEnd_54 ?_
          refine v_goto (tgt := 59) dX12_isEnd_55 (by decide) ?_
          refine v_zreturn rfl (Or.inr rfl) dX12_isEnd_59 ⟨by decide, by decide⟩ ?_
          exact ⟨_, rfl, rfl, h⟩
theorem cf_X12_isEnd {l : Launch} {E : bE} {M : bM} {v1 : Int} {Q : Int → Prop} (h : b_wp (F_X12_isEnd v1 M) Q) : b_C l E xX12_isEnd yX12_isEnd [bR 11, bI v1] M (b_pIp M Q) := b_met (by decide) ⟨rfl, rfl⟩ (Nat.le_of_ble_eq_true rfl) (fun _ _ => t_X12_isEnd h)
abbrev xX12_makeWays : bX := ("BurntHallModel", prog_14_method_93_code, 3, (Option.none : Option Jvm.ClassFile.FieldType), b_rm 3 0 0, 0, "makeWays")
abbrev yX12_makeWays : MethodName := ⟨"BurntHallModel", "makeWays", "()V"⟩
theorem dX12_makeWays_0 : decode prog_14_method_93_code 0 = .ok (.iconst 0, 1) := by decide +kernel
theorem dX12_makeWays_1 : decode prog_14_method_93_code 1 = .ok (.istore_n 1, 1) := by decide +kernel
theorem dX12_makeWays_2 : decode prog_14_method_93_code 2 = .ok (.iload_n 1, 1) := by decide +kernel
theorem dX12_makeWays_3 : decode prog_14_method_93_code 3 = .ok (.aload_n 0, 1) := by decide +kernel
theorem dX12_makeWays_4 : decode prog_14_method_93_code 4 = .ok (.getfield 496, 3) := by decide +kernel
theorem dX12_makeWays_7 : decode prog_14_method_93_code 7 = .ok (.if_icmp .ge 193, 3) := by decide +kernel
theorem dX12_makeWays_10 : decode prog_14_method_93_code 10 = .ok (.aload_n 0, 1) := by decide +kernel
theorem dX12_makeWays_11 : decode prog_14_method_93_code 11 = .ok (.getfield 203, 3) := by decide +kernel
theorem dX12_makeWays_14 : decode prog_14_method_93_code 14 = .ok (.iload_n 1, 1) := by decide +kernel
theorem dX12_makeWays_15 : decode prog_14_method_93_code 15 = .ok (.aload_n 0, 1) := by decide +kernel
theorem dX12_makeWays_16 : decode prog_14_method_93_code 16 = .ok (.iload_n 1, 1) := by decide +kernel
theorem dX12_makeWays_17 : decode prog_14_method_93_code 17 = .ok (.invokevirtual 553, 3) := by decide +kernel
theorem dX12_makeWays_20 : decode prog_14_method_93_code 20 = .ok (.ifCond .eq 24, 3) := by decide +kernel
theorem dX12_makeWays_23 : decode prog_14_method_93_code 23 = .ok (.aload_n 0, 1) := by decide +kernel
theorem dX12_makeWays_24 : decode prog_14_method_93_code 24 = .ok (.aload_n 0, 1) := by decide +kernel
theorem dX12_makeWays_25 : decode prog_14_method_93_code 25 = .ok (.getfield 161, 3) := by decide +kernel
theorem dX12_makeWays_28 : decode prog_14_method_93_code 28 = .ok (.iconst 3, 1) := by decide +kernel
theorem dX12_makeWays_29 : decode prog_14_method_93_code 29 = .ok (.iload_n 1, 1) := by decide +kernel
theorem dX12_makeWays_30 : decode prog_14_method_93_code 30 = .ok (.imul, 1) := by decide +kernel
theorem dX12_makeWays_31 : decode prog_14_method_93_code 31 = .ok (.iconst 1, 1) := by decide +kernel
theorem dX12_makeWays_32 : decode prog_14_method_93_code 32 = .ok (.iadd, 1) := by decide +kernel
theorem dX12_makeWays_33 : decode prog_14_method_93_code 33 = .ok (.iaload, 1) := by decide +kernel
theorem dX12_makeWays_34 : decode prog_14_method_93_code 34 = .ok (.invokevirtual 556, 3) := by decide +kernel
theorem dX12_makeWays_37 : decode prog_14_method_93_code 37 = .ok (.ifCond .eq 7, 3) := by decide +kernel
theorem dX12_makeWays_40 : decode prog_14_method_93_code 40 = .ok (.iconst 1, 1) := by decide +kernel
theorem dX12_makeWays_41 : decode prog_14_method_93_code 41 = .ok (.goto 4, 3) := by decide +kernel
theorem dX12_makeWays_44 : decode prog_14_method_93_code 44 = .ok (.iconst 0, 1) := by decide +kernel
theorem dX12_makeWays_45 : decode prog_14_method_93_code 45 = .ok (.bastore, 1) := by decide +kernel
theorem dX12_makeWays_46 : decode prog_14_method_93_code 46 = .ok (.iconst 0, 1) := by decide +kernel
theorem dX12_makeWays_47 : decode prog_14_method_93_code 47 = .ok (.istore_n 2, 1) := by decide +kernel
theorem dX12_makeWays_48 : decode prog_14_method_93_code 48 = .ok (.iload_n 2, 1) := by decide +kernel
theorem dX12_makeWays_49 : decode prog_14_method_93_code 49 = .ok (.aload_n 0, 1) := by decide +kernel
theorem dX12_makeWays_50 : decode prog_14_method_93_code 50 = .ok (.getfield 496, 3) := by decide +kernel
theorem dX12_makeWays_53 : decode prog_14_method_93_code 53 = .ok (.if_icmp .ge 64, 3) := by decide +kernel
theorem dX12_makeWays_56 : decode prog_14_method_93_code 56 = .ok (.aload_n 0, 1) := by decide +kernel
theorem dX12_makeWays_57 : decode prog_14_method_93_code 57 = .ok (.getfield 197, 3) := by decide +kernel
theorem dX12_makeWays_60 : decode prog_14_method_93_code 60 = .ok (.bipush 30, 2) := by decide +kernel
theorem dX12_makeWays_62 : decode prog_14_method_93_code 62 = .ok (.iload_n 1, 1) := by decide +kernel
theorem dX12_makeWays_63 : decode prog_14_method_93_code 63 = .ok (.imul, 1) := by decide +kernel
theorem dX12_makeWays_64 : decode prog_14_method_93_code 64 = .ok (.iload_n 2, 1) := by decide +kernel
theorem dX12_makeWays_65 : decode prog_14_method_93_code 65 = .ok (.iadd, 1) := by decide +kernel
theorem dX12_makeWays_66 : decode prog_14_method_93_code 66 = .ok (.iload_n 2, 1) := by decide +kernel
theorem dX12_makeWays_67 : decode prog_14_method_93_code 67 = .ok (.iload_n 1, 1) := by decide +kernel
theorem dX12_makeWays_68 : decode prog_14_method_93_code 68 = .ok (.if_icmp .eq 41, 3) := by decide +kernel
theorem dX12_makeWays_71 : decode prog_14_method_93_code 71 = .ok (.aload_n 0, 1) := by decide +kernel
theorem dX12_makeWays_72 : decode prog_14_method_93_code 72 = .ok (.iload_n 1, 1) := by decide +kernel
theorem dX12_makeWays_73 : decode prog_14_method_93_code 73 = .ok (.invokevirtual 553, 3) := by decide +kernel
theorem dX12_makeWays_76 : decode prog_14_method_93_code 76 = .ok (.ifCond .eq 33, 3) := by decide +kernel
theorem dX12_makeWays_79 : decode prog_14_method_93_code 79 = .ok (.aload_n 0, 1) := by decide +kernel
theorem dX12_makeWays_80 : decode prog_14_method_93_code 80 = .ok (.iload_n 2, 1) := by decide +kernel
theorem dX12_makeWays_81 : decode prog_14_method_93_code 81 = .ok (.invokevirtual 553, 3) := by decide +kernel
theorem dX12_makeWays_84 : decode prog_14_method_93_code 84 = .ok (.ifCond .eq 25, 3) := by decide +kernel
theorem dX12_makeWays_87 : decode prog_14_method_93_code 87 = .ok (.aload_n 0, 1) := by decide +kernel
theorem dX12_makeWays_88 : decode prog_14_method_93_code 88 = .ok (.aload_n 0, 1) := by decide +kernel
theorem dX12_makeWays_89 : decode prog_14_method_93_code 89 = .ok (.getfield 161, 3) := by decide +kernel
theorem dX12_makeWays_92 : decode prog_14_method_93_code 92 = .ok (.iconst 3, 1) := by decide +kernel
theorem dX12_makeWays_93 : decode prog_14_method_93_code 93 = .ok (.iload_n 1, 1) := by decide +kernel
theorem dX12_makeWays_94 : decode prog_14_method_93_code 94 = .ok (.imul, 1) := by decide +kernel
theorem dX12_makeWays_95 : decode prog_14_method_93_code 95 = .ok (.iconst 1, 1) := by decide +kernel
theorem dX12_makeWays_96 : decode prog_14_method_93_code 96 = .ok (.iadd, 1) := by decide +kernel
theorem dX12_makeWays_97 : decode prog_14_method_93_code 97 = .ok (.iaload, 1) := by decide +kernel
theorem dX12_makeWays_98 : decode prog_14_method_93_code 98 = .ok (.iload_n 2, 1) := by decide +kernel
theorem dX12_makeWays_99 : decode prog_14_method_93_code 99 = .ok (.invokevirtual 559, 3) := by decide +kernel
theorem dX12_makeWays_102 : decode prog_14_method_93_code 102 = .ok (.ifCond .eq 7, 3) := by decide +kernel
theorem dX12_makeWays_105 : decode prog_14_method_93_code 105 = .ok (.iconst 1, 1) := by decide +kernel
theorem dX12_makeWays_106 : decode prog_14_method_93_code 106 = .ok (.goto 4, 3) := by decide +kernel
theorem dX12_makeWays_109 : decode prog_14_method_93_code 109 = .ok (.iconst 0, 1) := by decide +kernel
theorem dX12_makeWays_110 : decode prog_14_method_93_code 110 = .ok (.bastore, 1) := by decide +kernel
theorem dX12_makeWays_111 : decode prog_14_method_93_code 111 = .ok (.iinc 2 1, 3) := by decide +kernel
theorem dX12_makeWays_114 : decode prog_14_method_93_code 114 = .ok (.goto (-66), 3) := by decide +kernel
theorem dX12_makeWays_117 : decode prog_14_method_93_code 117 = .ok (.iconst 0, 1) := by decide +kernel
theorem dX12_makeWays_118 : decode prog_14_method_93_code 118 = .ok (.istore_n 2, 1) := by decide +kernel
theorem dX12_makeWays_119 : decode prog_14_method_93_code 119 = .ok (.iload_n 2, 1) := by decide +kernel
theorem dX12_makeWays_120 : decode prog_14_method_93_code 120 = .ok (.aload_n 0, 1) := by decide +kernel
theorem dX12_makeWays_121 : decode prog_14_method_93_code 121 = .ok (.getfield 374, 3) := by decide +kernel
theorem dX12_makeWays_124 : decode prog_14_method_93_code 124 = .ok (.if_icmp .ge 70, 3) := by decide +kernel
theorem dX12_makeWays_127 : decode prog_14_method_93_code 127 = .ok (.aload_n 0, 1) := by decide +kernel
theorem dX12_makeWays_128 : decode prog_14_method_93_code 128 = .ok (.getfield 200, 3) := by decide +kernel
theorem dX12_makeWays_131 : decode prog_14_method_93_code 131 = .ok (.bipush 30, 2) := by decide +kernel
theorem dX12_makeWays_133 : decode prog_14_method_93_code 133 = .ok (.iload_n 2, 1) := by decide +kernel
theorem dX12_makeWays_134 : decode prog_14_method_93_code 134 = .ok (.imul, 1) := by decide +kernel
theorem dX12_makeWays_135 : decode prog_14_method_93_code 135 = .ok (.iload_n 1, 1) := by decide +kernel
theorem dX12_makeWays_136 : decode prog_14_method_93_code 136 = .ok (.iadd, 1) := by decide +kernel
theorem dX12_makeWays_137 : decode prog_14_method_93_code 137 = .ok (.aload_n 0, 1) := by decide +kernel
theorem dX12_makeWays_138 : decode prog_14_method_93_code 138 = .ok (.iload_n 1, 1) := by decide +kernel
theorem dX12_makeWays_139 : decode prog_14_method_93_code 139 = .ok (.invokevirtual 553, 3) := by decide +kernel
theorem dX12_makeWays_142 : decode prog_14_method_93_code 142 = .ok (.ifCond .eq 44, 3) := by decide +kernel
theorem dX12_makeWays_145 : decode prog_14_method_93_code 145 = .ok (.aload_n 0, 1) := by decide +kernel
theorem dX12_makeWays_146 : decode prog_14_method_93_code 146 = .ok (.iload_n 2, 1) := by decide +kernel
theorem dX12_makeWays_147 : decode prog_14_method_93_code 147 = .ok (.invokevirtual 562, 3) := by decide +kernel
theorem dX12_makeWays_150 : decode prog_14_method_93_code 150 = .ok (.ifCond .eq 36, 3) := by decide +kernel
theorem dX12_makeWays_153 : decode prog_14_method_93_code 153 = .ok (.aload_n 0, 1) := by decide +kernel
theorem dX12_makeWays_154 : decode prog_14_method_93_code 154 = .ok (.aload_n 0, 1) := by decide +kernel
theorem dX12_makeWays_155 : decode prog_14_method_93_code 155 = .ok (.getfield 185, 3) := by decide +kernel
theorem dX12_makeWays_158 : decode prog_14_method_93_code 158 = .ok (.iload_n 2, 1) := by decide +kernel
theorem dX12_makeWays_159 : decode prog_14_method_93_code 159 = .ok (.iaload, 1) := by decide +kernel
theorem dX12_makeWays_160 : decode prog_14_method_93_code 160 = .ok (.iload_n 1, 1) := by decide +kernel
theorem dX12_makeWays_161 : decode prog_14_method_93_code 161 = .ok (.invokevirtual 559, 3) := by decide +kernel
theorem dX12_makeWays_164 : decode prog_14_method_93_code 164 = .ok (.ifCond .eq 22, 3) := by decide +kernel
theorem dX12_makeWays_167 : decode prog_14_method_93_code 167 = .ok (.aload_n 0, 1) := by decide +kernel
theorem dX12_makeWays_168 : decode prog_14_method_93_code 168 = .ok (.getfield 170, 3) := by decide +kernel
theorem dX12_makeWays_171 : decode prog_14_method_93_code 171 = .ok (.iload_n 1, 1) := by decide +kernel
theorem dX12_makeWays_172 : decode prog_14_method_93_code 172 = .ok (.iaload, 1) := by decide +kernel
theorem dX12_makeWays_173 : decode prog_14_method_93_code 173 = .ok (.aload_n 0, 1) := by decide +kernel
theorem dX12_makeWays_174 : decode prog_14_method_93_code 174 = .ok (.getfield 188, 3) := by decide +kernel
theorem dX12_makeWays_177 : decode prog_14_method_93_code 177 = .ok (.iload_n 2, 1) := by decide +kernel
theorem dX12_makeWays_178 : decode prog_14_method_93_code 178 = .ok (.iaload, 1) := by decide +kernel
theorem dX12_makeWays_179 : decode prog_14_method_93_code 179 = .ok (.if_icmp .lt 7, 3) := by decide +kernel
theorem dX12_makeWays_182 : decode prog_14_method_93_code 182 = .ok (.iconst 1, 1) := by decide +kernel
theorem dX12_makeWays_183 : decode prog_14_method_93_code 183 = .ok (.goto 4, 3) := by decide +kernel
theorem dX12_makeWays_186 : decode prog_14_method_93_code 186 = .ok (.iconst 0, 1) := by decide +kernel
theorem dX12_makeWays_187 : decode prog_14_method_93_code 187 = .ok (.bastore, 1) := by decide +kernel
theorem dX12_makeWays_188 : decode prog_14_method_93_code 188 = .ok (.iinc 2 1, 3) := by decide +kernel
theorem dX12_makeWays_191 : decode prog_14_method_93_code 191 = .ok (.goto (-72), 3) := by decide +kernel
theorem dX12_makeWays_194 : decode prog_14_method_93_code 194 = .ok (.iinc 1 1, 3) := by decide +kernel
theorem dX12_makeWays_197 : decode prog_14_method_93_code 197 = .ok (.goto (-195), 3) := by decide +kernel
theorem dX12_makeWays_200 : decode prog_14_method_93_code 200 = .ok (.return_, 1) := by decide +kernel
abbrev A_X12_makeWays_2 (l : Launch) (E : bE) (Q : bM → Prop) : (Int × bM) → Prop := (fun t : Int × bM => V l E xX12_makeWays (0, 0) 2 [(0, bR 11), (1, bI (t.1))] [] t.2 (b_pV Q))
abbrev X_X12_makeWays_2 (l : Launch) (E : bE) (Q : bM → Prop) : (bM) → Prop := (fun t : bM => V l E xX12_makeWays (0, 0) 200 [] [] t (b_pV Q))
abbrev A_X12_makeWays_48 (l : Launch) (E : bE) (Q : bM → Prop) (v1 : Int) : (Int × bM) → Prop := (fun t : Int × bM => V l E xX12_makeWays (0, 0) 48 [(0, bR 11), (1, bI v1), (2, bI (t.1))] [] t.2 (b_pV Q))
abbrev X_X12_makeWays_48 (l : Launch) (E : bE) (Q : bM → Prop) (v1 : Int) : (bM) → Prop := (fun t : bM => V l E xX12_makeWays (0, 0) 117 [(0, bR 11), (1, bI v1)] [] t (b_pV Q))
noncomputable def F_X12_makeWays_b110 (v1 : Int) (v2 : Int) (u1 : Int) (u2 : Int) (M : bM) : Option ((Int × bM) ⊕ (bM)) :=
  b_g ((0 ≤ u1 ∧ u1 < 900) ∧ (u2 = 0 ∨ u2 = 1)) (b_let (b_up M 221 u1 u2) (fun M13 => b_g (b_i32 (v2 + 1)) (some (.inl ((v2 + 1), M13)))))
theorem t_X12_makeWays_b110 {l : Launch} {E : bE} {Q : bM → Prop} {v1 : Int} {v2 : Int} {u1 : Int} {u2 : Int} {M : bM} (h : b_wp (F_X12_makeWays_b110 v1 v2 u1 u2 M) (Sum.elim (A_X12_makeWays_48 l E Q v1) (X_X12_makeWays_48 l E Q v1))) : V l E xX12_makeWays (0, 0) 110 [(0, bR 11), (1, bI v1), (2, bI v2)] [bI u2, bI u1, bR 221] M (b_pV Q) := by
  unfold F_X12_makeWays_b110 at h
  obtain ⟨⟨g11, g12⟩, h⟩ := b_wp_g h
  refine v_zastore kd_221 g11 (by decide) (b_narz g12) dX12_makeWays_110 ?_
  replace h := b_wp_l h
  obtain ⟨g14, h⟩ := b_wp_g h
  refine v_iincN (ls' := [(2, bI _), (0, bR _), (1, bI _)]) 2 rfl (by decide) g14 dX12_makeWays_111 rfl ?_
  refine v_goto (tgt := 48) dX12_makeWays_114 (by decide) ?_
  refine v_sub (ls2 := [(0, bR _), (1, bI _), (2, bI _)]) [1, 2, 0] rfl ?_
  exact h
noncomputable def F_X12_makeWays_b109 (v1 : Int) (v2 : Int) (u1 : Int) (M : bM) : Option ((Int × bM) ⊕ (bM)) :=
  F_X12_makeWays_b110 v1 v2 u1 0 M
theorem t_X12_makeWays_b109 {l : Launch} {E : bE} {Q : bM → Prop} {v1 : Int} {v2 : Int} {u1 : Int} {M : bM} (h : b_wp (F_X12_makeWays_b109 v1 v2 u1 M) (Sum.elim (A_X12_makeWays_48 l E Q v1) (X_X12_makeWays_48 l E Q v1))) : V l E xX12_makeWays (0, 0) 109 [(0, bR 11), (1, bI v1), (2, bI v2)] [bI u1, bR 221] M (b_pV Q) := by
  unfold F_X12_makeWays_b109 at h
  refine v_iconst ⟨by decide, by decide⟩ dX12_makeWays_109 ?_
  exact t_X12_makeWays_b110 h
noncomputable def F_X12_makeWays_s48 (v1 : Int) (v2 : Int) (M : bM) : Option ((Int × bM) ⊕ (bM)) :=
  if (M 11 52) ≤ v2 then (some (.inr (M))) else (b_g ((b_i32 (30 * v1)) ∧ (b_i32 ((30 * v1) + v2))) (if v2 = v1 then (F_X12_makeWays_b109 v1 v2 ((30 * v1) + v2) M) else (b_bind (F_X12_isLink v1 M) (fun x15 => if x15 = 0 then (F_X12_makeWays_b109 v1 v2 ((30 * v1) + v2) M) else (b_bind (F_X12_isLink v2 M) (fun x17 => if x17 = 0 then (F_X12_makeWays_b109 v1 v2 ((30 * v1) + v2) M) else (b_g ((b_i32 (3 * v1)) ∧ (b_i32 ((3 * v1) + 1)) ∧ (0 ≤ ((3 * v1) + 1) ∧ ((3 * v1) + 1) < 90)) (b_bind (F_X12_isNext (M 209 ((3 * v1) + 1)) v2 M) (fun x22 => if x22 = 0 then (F_X12_makeWays_b109 v1 v2 ((30 * v1) + v2) M) else (F_X12_makeWays_b110 v1 v2 ((30 * v1) + v2) 1 M))))))))))
theorem t_X12_makeWays_s48 {l : Launch} {E : bE} {Q : bM → Prop} {v1 : Int} {v2 : Int} {M : bM} (h : b_wp (F_X12_makeWays_s48 v1 v2 M) (Sum.elim (A_X12_makeWays_48 l E Q v1) (X_X12_makeWays_48 l E Q v1))) : V l E xX12_makeWays (0, 0) 48 [(0, bR 11), (1, bI v1), (2, bI v2)] [] M (b_pV Q) := by
  unfold F_X12_makeWays_s48 at h
  refine v_iload_n (f := 2) 2 rfl dX12_makeWays_48 ?_
  refine v_aload_n (f := 0) 0 rfl dX12_makeWays_49 ?_
  refine v_getI (kf := 52) (kz := 52) rfl kd_11 rfl ⟨by decide, by decide⟩ rfl wf_12_496 dX12_makeWays_50 ?_
  refine v_icmp_ge (tgt := 117) dX12_makeWays_53 (by decide) (fun c7 => ?_) (fun c7 => ?_)
  · replace h := b_wp_t c7 h
    refine v_sub (ls2 := [(0, bR _), (1, bI _)]) [0, 1] rfl ?_
    exact h
  · replace h := b_wp_f c7 h
    obtain ⟨⟨g8, g9⟩, h⟩ := b_wp_g h
    refine v_aload_n (f := 0) 0 rfl dX12_makeWays_56 ?_
    refine v_getR (kf := 90) (kz := 90) rfl kd_11 rfl ⟨by decide, by decide⟩ rfl wf_12_197 dX12_makeWays_57 ?_
    refine v_bipush ⟨by decide, by decide⟩ (by decide) dX12_makeWays_60 ?_
    refine v_iload_n (f := 1) 1 rfl dX12_makeWays_62 ?_
    refine v_imulN g8 dX12_makeWays_63 ?_
    refine v_iload_n (f := 2) 2 rfl dX12_makeWays_64 ?_
    refine v_iaddN g9 dX12_makeWays_65 ?_
    refine v_iload_n (f := 2) 2 rfl dX12_makeWays_66 ?_
    refine v_iload_n (f := 1) 1 rfl dX12_makeWays_67 ?_
    refine v_icmp_eq (tgt := 109) dX12_makeWays_68 (by decide) (fun c10 => ?_) (fun c10 => ?_)
    · replace h := b_wp_t c10 h
      exact t_X12_makeWays_b109 h
    · replace h := b_wp_f c10 h
      refine v_aload_n (f := 0) 0 rfl dX12_makeWays_71 ?_
      refine v_iload_n (f := 1) 1 rfl dX12_makeWays_72 ?_
      refine v_cVIp (nA := 1) (As := [bI _]) (ix := 553) (cf_X12_isLink (b_wp_b h)) rfl kd_11 rfl rfl wc_X12_isLink wm_12_553 wi_X12_isLink ws_X12_isLink wn_12 ⟨by decide, by decide, by decide⟩ rfl ⟨by decide, by decide⟩ ⟨by decide, by decide⟩ (Nat.le_of_ble_eq_true rfl) dX12_makeWays_73 (fun x15 h => ?_)
      refine v_if_eq (tgt := 109) dX12_makeWays_76 (by decide) (fun c16 => ?_) (fun c16 => ?_)
      · replace h := b_wp_t c16 h
        exact t_X12_makeWays_b109 h
      · replace h := b_wp_f c16 h
        refine v_aload_n (f := 0) 0 rfl dX12_makeWays_79 ?_
        refine v_iload_n (f := 2) 2 rfl dX12_makeWays_80 ?_
        refine v_cVIp (nA := 1) (As := [bI _]) (ix := 553) (cf_X12_isLink (b_wp_b h)) rfl kd_11 rfl rfl wc_X12_isLink wm_12_553 wi_X12_isLink ws_X12_isLink wn_12 ⟨by decide, by decide, by decide⟩ rfl ⟨by decide, by decide⟩ ⟨by decide, by decide⟩ (Nat.le_of_ble_eq_true rfl) dX12_makeWays_81 (fun x17 h => ?_)
        refine v_if_eq (tgt := 109) dX12_makeWays_84 (by decide) (fun c18 => ?_) (fun c18 => ?_)
        · replace h := b_wp_t c18 h
          exact t_X12_makeWays_b109 h
        · replace h := b_wp_f c18 h
          obtain ⟨⟨g19, g20, g21⟩, h⟩ := b_wp_g h
          refine v_aload_n (f := 0) 0 rfl dX12_makeWays_87 ?_
          refine v_aload_n (f := 0) 0 rfl dX12_makeWays_88 ?_
          refine v_getR (kf := 70) (kz := 70) rfl kd_11 rfl ⟨by decide, by decide⟩ rfl wf_12_161 dX12_makeWays_89 ?_
          refine v_iconst ⟨by decide, by decide⟩ dX12_makeWays_92 ?_
          refine v_iload_n (f := 1) 1 rfl dX12_makeWays_93 ?_
          refine v_imulN g19 dX12_makeWays_94 ?_
          refine v_iconst ⟨by decide, by decide⟩ dX12_makeWays_95 ?_
          refine v_iaddN g20 dX12_makeWays_96 ?_
          refine v_iaload kd_209 g21 (by decide) dX12_makeWays_97 ?_
          refine v_iload_n (f := 2) 2 rfl dX12_makeWays_98 ?_
          refine v_cVIp (nA := 2) (As := [bI _, bI _]) (ix := 559) (cf_X12_isNext (b_wp_b h)) rfl kd_11 rfl rfl wc_X12_isNext wm_12_559 wi_X12_isNext ws_X12_isNext wn_12 ⟨by decide, by decide, by decide⟩ rfl ⟨by decide, by decide⟩ ⟨by decide, by decide⟩ (Nat.le_of_ble_eq_true rfl) dX12_makeWays_99 (fun x22 h => ?_)
          refine v_if_eq (tgt := 109) dX12_makeWays_102 (by decide) (fun c23 => ?_) (fun c23 => ?_)
          · replace h := b_wp_t c23 h
            exact t_X12_makeWays_b109 h
          · replace h := b_wp_f c23 h
            refine v_iconst ⟨by decide, by decide⟩ dX12_makeWays_105 ?_
            refine v_goto (tgt := 110) dX12_makeWays_106 (by decide) ?_
            exact t_X12_makeWays_b110 h
theorem l_X12_makeWays_48 {l : Launch} {E : bE} {Q : bM → Prop} {v1 : Int} {s : Int × bM} (h : b_wp (b_loop (fun t => F_X12_makeWays_s48 v1 t.1 t.2) s) (X_X12_makeWays_48 l E Q v1)) : A_X12_makeWays_48 l E Q v1 s := b_loop_wp (fun t h => t_X12_makeWays_s48 h) s h
abbrev A_X12_makeWays_119 (l : Launch) (E : bE) (Q : bM → Prop) (v1 : Int) : (Int × bM) → Prop := (fun t : Int × bM => V l E xX12_makeWays (0, 0) 119 [(0, bR 11), (1, bI v1), (2, bI (t.1))] [] t.2 (b_pV Q))
abbrev X_X12_makeWays_119 (l : Launch) (E : bE) (Q : bM → Prop) (v1 : Int) : (bM) → Prop := (fun t : bM => V l E xX12_makeWays (0, 0) 194 [(0, bR 11), (1, bI v1)] [] t (b_pV Q))
noncomputable def F_X12_makeWays_b187 (v1 : Int) (v2 : Int) (u1 : Int) (u2 : Int) (M : bM) : Option ((Int × bM) ⊕ (bM)) :=
  b_g ((0 ≤ u1 ∧ u1 < 1800) ∧ (u2 = 0 ∨ u2 = 1)) (b_let (b_up M 222 u1 u2) (fun M31 => b_g (b_i32 (v2 + 1)) (some (.inl ((v2 + 1), M31)))))
theorem t_X12_makeWays_b187 {l : Launch} {E : bE} {Q : bM → Prop} {v1 : Int} {v2 : Int} {u1 : Int} {u2 : Int} {M : bM} (h : b_wp (F_X12_makeWays_b187 v1 v2 u1 u2 M) (Sum.elim (A_X12_makeWays_119 l E Q v1) (X_X12_makeWays_119 l E Q v1))) : V l E xX12_makeWays (0, 0) 187 [(0, bR 11), (1, bI v1), (2, bI v2)] [bI u2, bI u1, bR 222] M (b_pV Q) := by
  unfold F_X12_makeWays_b187 at h
  obtain ⟨⟨g29, g30⟩, h⟩ := b_wp_g h
  refine v_zastore kd_222 g29 (by decide) (b_narz g30) dX12_makeWays_187 ?_
  replace h := b_wp_l h
  obtain ⟨g32, h⟩ := b_wp_g h
  refine v_iincN (ls' := [(2, bI _), (0, bR _), (1, bI _)]) 2 rfl (by decide) g32 dX12_makeWays_188 rfl ?_
  refine v_goto (tgt := 119) dX12_makeWays_191 (by decide) ?_
  refine v_sub (ls2 := [(0, bR _), (1, bI _), (2, bI _)]) [1, 2, 0] rfl ?_
  exact h
noncomputable def F_X12_makeWays_b186 (v1 : Int) (v2 : Int) (u1 : Int) (M : bM) : Option ((Int × bM) ⊕ (bM)) :=
  F_X12_makeWays_b187 v1 v2 u1 0 M
theorem t_X12_makeWays_b186 {l : Launch} {E : bE} {Q : bM → Prop} {v1 : Int} {v2 : Int} {u1 : Int} {M : bM} (h : b_wp (F_X12_makeWays_b186 v1 v2 u1 M) (Sum.elim (A_X12_makeWays_119 l E Q v1) (X_X12_makeWays_119 l E Q v1))) : V l E xX12_makeWays (0, 0) 186 [(0, bR 11), (1, bI v1), (2, bI v2)] [bI u1, bR 222] M (b_pV Q) := by
  unfold F_X12_makeWays_b186 at h
  refine v_iconst ⟨by decide, by decide⟩ dX12_makeWays_186 ?_
  exact t_X12_makeWays_b187 h
noncomputable def F_X12_makeWays_s119 (v1 : Int) (v2 : Int) (M : bM) : Option ((Int × bM) ⊕ (bM)) :=
  if (M 11 20) ≤ v2 then (some (.inr (M))) else (b_g ((b_i32 (30 * v2)) ∧ (b_i32 ((30 * v2) + v1))) (b_bind (F_X12_isLink v1 M) (fun x27 => if x27 = 0 then (F_X12_makeWays_b186 v1 v2 ((30 * v2) + v1) M) else (b_bind (F_X12_isRoot v2 M) (fun x33 => if x33 = 0 then (F_X12_makeWays_b186 v1 v2 ((30 * v2) + v1) M) else (b_g (0 ≤ v2 ∧ v2 < 60) (b_bind (F_X12_isNext (M 217 v2) v1 M) (fun x36 => if x36 = 0 then (F_X12_makeWays_b186 v1 v2 ((30 * v2) + v1) M) else (b_g ((0 ≤ v1 ∧ v1 < 30) ∧ (0 ≤ v2 ∧ v2 < 60)) (if (M 212 v1) < (M 218 v2) then (F_X12_makeWays_b186 v1 v2 ((30 * v2) + v1) M) else (F_X12_makeWays_b187 v1 v2 ((30 * v2) + v1) 1 M)))))))))))
theorem t_X12_makeWays_s119 {l : Launch} {E : bE} {Q : bM → Prop} {v1 : Int} {v2 : Int} {M : bM} (h : b_wp (F_X12_makeWays_s119 v1 v2 M) (Sum.elim (A_X12_makeWays_119 l E Q v1) (X_X12_makeWays_119 l E Q v1))) : V l E xX12_makeWays (0, 0) 119 [(0, bR 11), (1, bI v1), (2, bI v2)] [] M (b_pV Q) := by
  unfold F_X12_makeWays_s119 at h
  refine v_iload_n (f := 2) 2 rfl dX12_makeWays_119 ?_
  refine v_aload_n (f := 0) 0 rfl dX12_makeWays_120 ?_
  refine v_getI (kf := 20) (kz := 20) rfl kd_11 rfl ⟨by decide, by decide⟩ rfl wf_12_374 dX12_makeWays_121 ?_
  refine v_icmp_ge (tgt := 194) dX12_makeWays_124 (by decide) (fun c24 => ?_) (fun c24 => ?_)
  · replace h := b_wp_t c24 h
    refine v_sub (ls2 := [(0, bR _), (1, bI _)]) [0, 1] rfl ?_
    exact h
  · replace h := b_wp_f c24 h
    obtain ⟨⟨g25, g26⟩, h⟩ := b_wp_g h
    refine v_aload_n (f := 0) 0 rfl dX12_makeWays_127 ?_
    refine v_getR (kf := 91) (kz := 91) rfl kd_11 rfl ⟨by decide, by decide⟩ rfl wf_12_200 dX12_makeWays_128 ?_
    refine v_bipush ⟨by decide, by decide⟩ (by decide) dX12_makeWays_131 ?_
    refine v_iload_n (f := 2) 2 rfl dX12_makeWays_133 ?_
    refine v_imulN g25 dX12_makeWays_134 ?_
    refine v_iload_n (f := 1) 1 rfl dX12_makeWays_135 ?_
    refine v_iaddN g26 dX12_makeWays_136 ?_
    refine v_aload_n (f := 0) 0 rfl dX12_makeWays_137 ?_
    refine v_iload_n (f := 1) 1 rfl dX12_makeWays_138 ?_
    refine v_cVIp (nA := 1) (As := [bI _]) (ix := 553) (cf_X12_isLink (b_wp_b h)) rfl kd_11 rfl rfl wc_X12_isLink wm_12_553 wi_X12_isLink ws_X12_isLink wn_12 ⟨by decide, by decide, by decide⟩ rfl ⟨by decide, by decide⟩ ⟨by decide, by decide⟩ (Nat.le_of_ble_eq_true rfl) dX12_makeWays_139 (fun x27 h => ?_)
    refine v_if_eq (tgt := 186) dX12_makeWays_142 (by decide) (fun c28 => ?_) (fun c28 => ?_)
    · replace h := b_wp_t c28 h
      exact t_X12_makeWays_b186 h
    · replace h := b_wp_f c28 h
      refine v_aload_n (f := 0) 0 rfl dX12_makeWays_145 ?_
      refine v_iload_n (f := 2) 2 rfl dX12_makeWays_146 ?_
      refine v_cVIp (nA := 1) (As := [bI _]) (ix := 562) (cf_X12_isRoot (b_wp_b h)) rfl kd_11 rfl rfl wc_X12_isRoot wm_12_562 wi_X12_isRoot ws_X12_isRoot wn_12 ⟨by decide, by decide, by decide⟩ rfl ⟨by decide, by decide⟩ ⟨by decide, by decide⟩ (Nat.le_of_ble_eq_true rfl) dX12_makeWays_147 (fun x33 h => ?_)
      refine v_if_eq (tgt := 186) dX12_makeWays_150 (by decide) (fun c34 => ?_) (fun c34 => ?_)
      · replace h := b_wp_t c34 h
        exact t_X12_makeWays_b186 h
      · replace h := b_wp_f c34 h
        obtain ⟨g35, h⟩ := b_wp_g h
        refine v_aload_n (f := 0) 0 rfl dX12_makeWays_153 ?_
        refine v_aload_n (f := 0) 0 rfl dX12_makeWays_154 ?_
        refine v_getR (kf := 78) (kz := 78) rfl kd_11 rfl ⟨by decide, by decide⟩ rfl wf_12_185 dX12_makeWays_155 ?_
        refine v_iload_n (f := 2) 2 rfl dX12_makeWays_158 ?_
        refine v_iaload kd_217 g35 (by decide) dX12_makeWays_159 ?_
        refine v_iload_n (f := 1) 1 rfl dX12_makeWays_160 ?_
        refine v_cVIp (nA := 2) (As := [bI _, bI _]) (ix := 559) (cf_X12_isNext (b_wp_b h)) rfl kd_11 rfl rfl wc_X12_isNext wm_12_559 wi_X12_isNext ws_X12_isNext wn_12 ⟨by decide, by decide, by decide⟩ rfl ⟨by decide, by decide⟩ ⟨by decide, by decide⟩ (Nat.le_of_ble_eq_true rfl) dX12_makeWays_161 (fun x36 h => ?_)
        refine v_if_eq (tgt := 186) dX12_makeWays_164 (by decide) (fun c37 => ?_) (fun c37 => ?_)
        · replace h := b_wp_t c37 h
          exact t_X12_makeWays_b186 h
        · replace h := b_wp_f c37 h
          obtain ⟨⟨g38, g39⟩, h⟩ := b_wp_g h
          refine v_aload_n (f := 0) 0 rfl dX12_makeWays_167 ?_
          refine v_getR (kf := 73) (kz := 73) rfl kd_11 rfl ⟨by decide, by decide⟩ rfl wf_12_170 dX12_makeWays_168 ?_
          refine v_iload_n (f := 1) 1 rfl dX12_makeWays_171 ?_
          refine v_iaload kd_212 g38 (by decide) dX12_makeWays_172 ?_
          refine v_aload_n (f := 0) 0 rfl dX12_makeWays_173 ?_
          refine v_getR (kf := 79) (kz := 79) rfl kd_11 rfl ⟨by decide, by decide⟩ rfl wf_12_188 dX12_makeWays_174 ?_
          refine v_iload_n (f := 2) 2 rfl dX12_makeWays_177 ?_
          refine v_iaload kd_218 g39 (by decide) dX12_makeWays_178 ?_
          refine v_icmp_lt (tgt := 186) dX12_makeWays_179 (by decide) (fun c40 => ?_) (fun c40 => ?_)
          · replace h := b_wp_t c40 h
            exact t_X12_makeWays_b186 h
          · replace h := b_wp_f c40 h
            refine v_iconst ⟨by decide, by decide⟩ dX12_makeWays_182 ?_
            refine v_goto (tgt := 187) dX12_makeWays_183 (by decide) ?_
            exact t_X12_makeWays_b187 h
theorem l_X12_makeWays_119 {l : Launch} {E : bE} {Q : bM → Prop} {v1 : Int} {s : Int × bM} (h : b_wp (b_loop (fun t => F_X12_makeWays_s119 v1 t.1 t.2) s) (X_X12_makeWays_119 l E Q v1)) : A_X12_makeWays_119 l E Q v1 s := b_loop_wp (fun t h => t_X12_makeWays_s119 h) s h
noncomputable def F_X12_makeWays_b194 (v1 : Int) (M : bM) : Option ((Int × bM) ⊕ (bM)) :=
  b_g (b_i32 (v1 + 1)) (some (.inl ((v1 + 1), M)))
theorem t_X12_makeWays_b194 {l : Launch} {E : bE} {Q : bM → Prop} {v1 : Int} {M : bM} (h : b_wp (F_X12_makeWays_b194 v1 M) (Sum.elim (A_X12_makeWays_2 l E Q ) (X_X12_makeWays_2 l E Q ))) : V l E xX12_makeWays (0, 0) 194 [(0, bR 11), (1, bI v1)] [] M (b_pV Q) := by
  unfold F_X12_makeWays_b194 at h
  obtain ⟨g41, h⟩ := b_wp_g h
  refine v_iincN (ls' := [(1, bI _), (0, bR _)]) 1 rfl (by decide) g41 dX12_makeWays_194 rfl ?_
  refine v_goto (tgt := 2) dX12_makeWays_197 (by decide) ?_
  refine v_sub (ls2 := [(0, bR _), (1, bI _)]) [1, 0] rfl ?_
  exact h
noncomputable def F_X12_makeWays_b117 (v1 : Int) (M : bM) : Option ((Int × bM) ⊕ (bM)) :=
  b_bind (b_loop (fun t => F_X12_makeWays_s119 v1 t.1 t.2) (0, M)) (fun t => F_X12_makeWays_b194 v1 t)
theorem t_X12_makeWays_b117 {l : Launch} {E : bE} {Q : bM → Prop} {v1 : Int} {M : bM} (h : b_wp (F_X12_makeWays_b117 v1 M) (Sum.elim (A_X12_makeWays_2 l E Q ) (X_X12_makeWays_2 l E Q ))) : V l E xX12_makeWays (0, 0) 117 [(0, bR 11), (1, bI v1)] [] M (b_pV Q) := by
  unfold F_X12_makeWays_b117 at h
  refine v_iconst ⟨by decide, by decide⟩ dX12_makeWays_117 ?_
  refine v_istore_n (g := 2) (i := 2) (ls' := [(2, bI _), (0, bR _), (1, bI _)]) rfl (by decide) dX12_makeWays_118 rfl ?_
  refine v_sub (ls2 := [(0, bR _), (1, bI _), (2, bI _)]) [1, 2, 0] rfl ?_
  refine l_X12_makeWays_119 (b_wp_m (fun t h => ?_) (b_wp_b h))
  show V l E xX12_makeWays (0, 0) 194 [(0, bR 11), (1, bI _)] [] _ (b_pV Q)
  exact t_X12_makeWays_b194 h
noncomputable def F_X12_makeWays_b45 (v1 : Int) (u1 : Int) (u2 : Int) (M : bM) : Option ((Int × bM) ⊕ (bM)) :=
  b_g ((0 ≤ u1 ∧ u1 < 30) ∧ (u2 = 0 ∨ u2 = 1)) (b_let (b_up M 223 u1 u2) (fun M6 => b_bind (b_loop (fun t => F_X12_makeWays_s48 v1 t.1 t.2) (0, M6)) (fun t => F_X12_makeWays_b117 v1 t)))
theorem t_X12_makeWays_b45 {l : Launch} {E : bE} {Q : bM → Prop} {v1 : Int} {u1 : Int} {u2 : Int} {M : bM} (h : b_wp (F_X12_makeWays_b45 v1 u1 u2 M) (Sum.elim (A_X12_makeWays_2 l E Q ) (X_X12_makeWays_2 l E Q ))) : V l E xX12_makeWays (0, 0) 45 [(0, bR 11), (1, bI v1)] [bI u2, bI u1, bR 223] M (b_pV Q) := by
  unfold F_X12_makeWays_b45 at h
  obtain ⟨⟨g4, g5⟩, h⟩ := b_wp_g h
  refine v_zastore kd_223 g4 (by decide) (b_narz g5) dX12_makeWays_45 ?_
  replace h := b_wp_l h
  refine v_iconst ⟨by decide, by decide⟩ dX12_makeWays_46 ?_
  refine v_istore_n (g := 2) (i := 2) (ls' := [(2, bI _), (0, bR _), (1, bI _)]) rfl (by decide) dX12_makeWays_47 rfl ?_
  refine v_sub (ls2 := [(0, bR _), (1, bI _), (2, bI _)]) [1, 2, 0] rfl ?_
  refine l_X12_makeWays_48 (b_wp_m (fun t h => ?_) (b_wp_b h))
  show V l E xX12_makeWays (0, 0) 117 [(0, bR 11), (1, bI _)] [] _ (b_pV Q)
  exact t_X12_makeWays_b117 h
noncomputable def F_X12_makeWays_b44 (v1 : Int) (u1 : Int) (M : bM) : Option ((Int × bM) ⊕ (bM)) :=
  F_X12_makeWays_b45 v1 u1 0 M
theorem t_X12_makeWays_b44 {l : Launch} {E : bE} {Q : bM → Prop} {v1 : Int} {u1 : Int} {M : bM} (h : b_wp (F_X12_makeWays_b44 v1 u1 M) (Sum.elim (A_X12_makeWays_2 l E Q ) (X_X12_makeWays_2 l E Q ))) : V l E xX12_makeWays (0, 0) 44 [(0, bR 11), (1, bI v1)] [bI u1, bR 223] M (b_pV Q) := by
  unfold F_X12_makeWays_b44 at h
  refine v_iconst ⟨by decide, by decide⟩ dX12_makeWays_44 ?_
  exact t_X12_makeWays_b45 h
noncomputable def F_X12_makeWays_s2 (v1 : Int) (M : bM) : Option ((Int × bM) ⊕ (bM)) :=
  if (M 11 52) ≤ v1 then (some (.inr (M))) else (b_bind (F_X12_isLink v1 M) (fun x2 => if x2 = 0 then (F_X12_makeWays_b44 v1 v1 M) else (b_g ((b_i32 (3 * v1)) ∧ (b_i32 ((3 * v1) + 1)) ∧ (0 ≤ ((3 * v1) + 1) ∧ ((3 * v1) + 1) < 90)) (b_bind (F_X12_isEnd (M 209 ((3 * v1) + 1)) M) (fun x45 => if x45 = 0 then (F_X12_makeWays_b44 v1 v1 M) else (F_X12_makeWays_b45 v1 v1 1 M))))))
theorem t_X12_makeWays_s2 {l : Launch} {E : bE} {Q : bM → Prop} {v1 : Int} {M : bM} (h : b_wp (F_X12_makeWays_s2 v1 M) (Sum.elim (A_X12_makeWays_2 l E Q ) (X_X12_makeWays_2 l E Q ))) : V l E xX12_makeWays (0, 0) 2 [(0, bR 11), (1, bI v1)] [] M (b_pV Q) := by
  unfold F_X12_makeWays_s2 at h
  refine v_iload_n (f := 1) 1 rfl dX12_makeWays_2 ?_
  refine v_aload_n (f := 0) 0 rfl dX12_makeWays_3 ?_
  refine v_getI (kf := 52) (kz := 52) rfl kd_11 rfl ⟨by decide, by decide⟩ rfl wf_12_496 dX12_makeWays_4 ?_
  refine v_icmp_ge (tgt := 200) dX12_makeWays_7 (by decide) (fun c1 => ?_) (fun c1 => ?_)
  · replace h := b_wp_t c1 h
    refine v_sub (ls2 := []) [] rfl ?_
    exact h
  · replace h := b_wp_f c1 h
    refine v_aload_n (f := 0) 0 rfl dX12_makeWays_10 ?_
    refine v_getR (kf := 92) (kz := 92) rfl kd_11 rfl ⟨by decide, by decide⟩ rfl wf_12_203 dX12_makeWays_11 ?_
    refine v_iload_n (f := 1) 1 rfl dX12_makeWays_14 ?_
    refine v_aload_n (f := 0) 0 rfl dX12_makeWays_15 ?_
    refine v_iload_n (f := 1) 1 rfl dX12_makeWays_16 ?_
    refine v_cVIp (nA := 1) (As := [bI _]) (ix := 553) (cf_X12_isLink (b_wp_b h)) rfl kd_11 rfl rfl wc_X12_isLink wm_12_553 wi_X12_isLink ws_X12_isLink wn_12 ⟨by decide, by decide, by decide⟩ rfl ⟨by decide, by decide⟩ ⟨by decide, by decide⟩ (Nat.le_of_ble_eq_true rfl) dX12_makeWays_17 (fun x2 h => ?_)
    refine v_if_eq (tgt := 44) dX12_makeWays_20 (by decide) (fun c3 => ?_) (fun c3 => ?_)
    · replace h := b_wp_t c3 h
      exact t_X12_makeWays_b44 h
    · replace h := b_wp_f c3 h
      obtain ⟨⟨g42, g43, g44⟩, h⟩ := b_wp_g h
      refine v_aload_n (f := 0) 0 rfl dX12_makeWays_23 ?_
      refine v_aload_n (f := 0) 0 rfl dX12_makeWays_24 ?_
      refine v_getR (kf := 70) (kz := 70) rfl kd_11 rfl ⟨by decide, by decide⟩ rfl wf_12_161 dX12_makeWays_25 ?_
      refine v_iconst ⟨by decide, by decide⟩ dX12_makeWays_28 ?_
      refine v_iload_n (f := 1) 1 rfl dX12_makeWays_29 ?_
      refine v_imulN g42 dX12_makeWays_30 ?_
      refine v_iconst ⟨by decide, by decide⟩ dX12_makeWays_31 ?_
      refine v_iaddN g43 dX12_makeWays_32 ?_
      refine v_iaload kd_209 g44 (by decide) dX12_makeWays_33 ?_
      refine v_cVIp (nA := 1) (As := [bI _]) (ix := 556) (cf_X12_isEnd (b_wp_b h)) rfl kd_11 rfl rfl wc_X12_isEnd wm_12_556 wi_X12_isEnd ws_X12_isEnd wn_12 ⟨by decide, by decide, by decide⟩ rfl ⟨by decide, by decide⟩ ⟨by decide, by decide⟩ (Nat.le_of_ble_eq_true rfl) dX12_makeWays_34 (fun x45 h => ?_)
      refine v_if_eq (tgt := 44) dX12_makeWays_37 (by decide) (fun c46 => ?_) (fun c46 => ?_)
      · replace h := b_wp_t c46 h
        exact t_X12_makeWays_b44 h
      · replace h := b_wp_f c46 h
        refine v_iconst ⟨by decide, by decide⟩ dX12_makeWays_40 ?_
        refine v_goto (tgt := 45) dX12_makeWays_41 (by decide) ?_
        exact t_X12_makeWays_b45 h
theorem l_X12_makeWays_2 {l : Launch} {E : bE} {Q : bM → Prop} {s : Int × bM} (h : b_wp (b_loop (fun t => F_X12_makeWays_s2 t.1 t.2) s) (X_X12_makeWays_2 l E Q )) : A_X12_makeWays_2 l E Q  s := b_loop_wp (fun t h => t_X12_makeWays_s2 h) s h
noncomputable def F_X12_makeWays_b200 (M : bM) : Option (bM) :=
  some M
theorem t_X12_makeWays_b200 {l : Launch} {E : bE} {Q : bM → Prop} {M : bM} (h : b_wp (F_X12_makeWays_b200 M) (Q)) : V l E xX12_makeWays (0, 0) 200 [] [] M (b_pV Q) := by
  unfold F_X12_makeWays_b200 at h
  refine v_return rfl dX12_makeWays_200 ⟨by decide, by decide⟩ ?_
  exact ⟨rfl, h⟩
noncomputable def F_X12_makeWays (M : bM) : Option (bM) :=
  b_bind (b_loop (fun t => F_X12_makeWays_s2 t.1 t.2) (0, M)) (fun t => F_X12_makeWays_b200 t)
theorem t_X12_makeWays {l : Launch} {E : bE} {Q : bM → Prop} {M : bM} (h : b_wp (F_X12_makeWays M) (Q)) : V l E xX12_makeWays (0, 0) 0 [(0, bR 11)] [] M (b_pV Q) := by
  unfold F_X12_makeWays at h
  refine v_iconst ⟨by decide, by decide⟩ dX12_makeWays_0 ?_
  refine v_istore_n (g := 1) (i := 1) (ls' := [(1, bI _), (0, bR _)]) rfl (by decide) dX12_makeWays_1 rfl ?_
  refine v_sub (ls2 := [(0, bR _), (1, bI _)]) [1, 0] rfl ?_
  refine l_X12_makeWays_2 (b_wp_m (fun t h => ?_) (b_wp_b h))
  show V l E xX12_makeWays (0, 0) 200 [] [] _ (b_pV Q)
  exact t_X12_makeWays_b200 h
theorem cf_X12_makeWays {l : Launch} {E : bE} {M : bM} {Q : bM → Prop} (h : b_wp (F_X12_makeWays M) Q) : b_C l E xX12_makeWays yX12_makeWays [bR 11] M (b_pV Q) := b_met (by decide) ⟨rfl, rfl⟩ (Nat.le_of_ble_eq_true rfl) (fun _ _ => t_X12_makeWays h)
abbrev xX12_makeLatest : bX := ("BurntHallModel", prog_14_method_96_code, 8, (Option.none : Option Jvm.ClassFile.FieldType), b_rm 3 0 0, 0, "makeLatest")
abbrev yX12_makeLatest : MethodName := ⟨"BurntHallModel", "makeLatest", "(I)V"⟩
theorem dX12_makeLatest_0 : decode prog_14_method_96_code 0 = .ok (.iconst 0, 1) := by decide +kernel
theorem dX12_makeLatest_1 : decode prog_14_method_96_code 1 = .ok (.istore_n 2, 1) := by decide +kernel
theorem dX12_makeLatest_2 : decode prog_14_method_96_code 2 = .ok (.iload_n 2, 1) := by decide +kernel
theorem dX12_makeLatest_3 : decode prog_14_method_96_code 3 = .ok (.bipush 8, 2) := by decide +kernel
theorem dX12_makeLatest_5 : decode prog_14_method_96_code 5 = .ok (.if_icmp .ge 180, 3) := by decide +kernel
theorem dX12_makeLatest_8 : decode prog_14_method_96_code 8 = .ok (.iconst 0, 1) := by decide +kernel
theorem dX12_makeLatest_9 : decode prog_14_method_96_code 9 = .ok (.istore_n 3, 1) := by decide +kernel
theorem dX12_makeLatest_10 : decode prog_14_method_96_code 10 = .ok (.iload_n 3, 1) := by decide +kernel
theorem dX12_makeLatest_11 : decode prog_14_method_96_code 11 = .ok (.aload_n 0, 1) := by decide +kernel
theorem dX12_makeLatest_12 : decode prog_14_method_96_code 12 = .ok (.getfield 496, 3) := by decide +kernel
theorem dX12_makeLatest_15 : decode prog_14_method_96_code 15 = .ok (.if_icmp .ge 164, 3) := by decide +kernel
theorem dX12_makeLatest_18 : decode prog_14_method_96_code 18 = .ok (.iconst (-1), 1) := by decide +kernel
theorem dX12_makeLatest_19 : decode prog_14_method_96_code 19 = .ok (.istore 4, 2) := by decide +kernel
theorem dX12_makeLatest_21 : decode prog_14_method_96_code 21 = .ok (.aload_n 0, 1) := by decide +kernel
theorem dX12_makeLatest_22 : decode prog_14_method_96_code 22 = .ok (.iload_n 3, 1) := by decide +kernel
theorem dX12_makeLatest_23 : decode prog_14_method_96_code 23 = .ok (.invokevirtual 553, 3) := by decide +kernel
theorem dX12_makeLatest_26 : decode prog_14_method_96_code 26 = .ok (.ifCond .eq 16, 3) := by decide +kernel
theorem dX12_makeLatest_29 : decode prog_14_method_96_code 29 = .ok (.aload_n 0, 1) := by decide +kernel
theorem dX12_makeLatest_30 : decode prog_14_method_96_code 30 = .ok (.iload_n 3, 1) := by decide +kernel
theorem dX12_makeLatest_31 : decode prog_14_method_96_code 31 = .ok (.invokevirtual 537, 3) := by decide +kernel
theorem dX12_makeLatest_34 : decode prog_14_method_96_code 34 = .ok (.iload_n 1, 1) := by decide +kernel
theorem dX12_makeLatest_35 : decode prog_14_method_96_code 35 = .ok (.if_icmp .lt 7, 3) := by decide +kernel
theorem dX12_makeLatest_38 : decode prog_14_method_96_code 38 = .ok (.iconst 1, 1) := by decide +kernel
theorem dX12_makeLatest_39 : decode prog_14_method_96_code 39 = .ok (.goto 4, 3) := by decide +kernel
theorem dX12_makeLatest_42 : decode prog_14_method_96_code 42 = .ok (.iconst 0, 1) := by decide +kernel
theorem dX12_makeLatest_43 : decode prog_14_method_96_code 43 = .ok (.istore 5, 2) := by decide +kernel
theorem dX12_makeLatest_45 : decode prog_14_method_96_code 45 = .ok (.iload_n 2, 1) := by decide +kernel
theorem dX12_makeLatest_46 : decode prog_14_method_96_code 46 = .ok (.ifCond .ne 22, 3) := by decide +kernel
theorem dX12_makeLatest_49 : decode prog_14_method_96_code 49 = .ok (.iload 5, 2) := by decide +kernel
theorem dX12_makeLatest_51 : decode prog_14_method_96_code 51 = .ok (.ifCond .eq 17, 3) := by decide +kernel
theorem dX12_makeLatest_54 : decode prog_14_method_96_code 54 = .ok (.aload_n 0, 1) := by decide +kernel
theorem dX12_makeLatest_55 : decode prog_14_method_96_code 55 = .ok (.getfield 203, 3) := by decide +kernel
theorem dX12_makeLatest_58 : decode prog_14_method_96_code 58 = .ok (.iload_n 3, 1) := by decide +kernel
theorem dX12_makeLatest_59 : decode prog_14_method_96_code 59 = .ok (.baload, 1) := by decide +kernel
theorem dX12_makeLatest_60 : decode prog_14_method_96_code 60 = .ok (.ifCond .eq 8, 3) := by decide +kernel
theorem dX12_makeLatest_63 : decode prog_14_method_96_code 63 = .ok (.sipush 9999, 3) := by decide +kernel
theorem dX12_makeLatest_66 : decode prog_14_method_96_code 66 = .ok (.istore 4, 2) := by decide +kernel
theorem dX12_makeLatest_68 : decode prog_14_method_96_code 68 = .ok (.iconst 0, 1) := by decide +kernel
theorem dX12_makeLatest_69 : decode prog_14_method_96_code 69 = .ok (.istore 6, 2) := by decide +kernel
theorem dX12_makeLatest_71 : decode prog_14_method_96_code 71 = .ok (.iload 6, 2) := by decide +kernel
theorem dX12_makeLatest_73 : decode prog_14_method_96_code 73 = .ok (.aload_n 0, 1) := by decide +kernel
theorem dX12_makeLatest_74 : decode prog_14_method_96_code 74 = .ok (.getfield 496, 3) := by decide +kernel
theorem dX12_makeLatest_77 : decode prog_14_method_96_code 77 = .ok (.if_icmp .ge 83, 3) := by decide +kernel
theorem dX12_makeLatest_80 : decode prog_14_method_96_code 80 = .ok (.iload_n 2, 1) := by decide +kernel
theorem dX12_makeLatest_81 : decode prog_14_method_96_code 81 = .ok (.ifCond .le 79, 3) := by decide +kernel
theorem dX12_makeLatest_84 : decode prog_14_method_96_code 84 = .ok (.iload 5, 2) := by decide +kernel
theorem dX12_makeLatest_86 : decode prog_14_method_96_code 86 = .ok (.ifCond .eq 74, 3) := by decide +kernel
theorem dX12_makeLatest_89 : decode prog_14_method_96_code 89 = .ok (.aload_n 0, 1) := by decide +kernel
theorem dX12_makeLatest_90 : decode prog_14_method_96_code 90 = .ok (.getfield 194, 3) := by decide +kernel
theorem dX12_makeLatest_93 : decode prog_14_method_96_code 93 = .ok (.bipush 30, 2) := by decide +kernel
theorem dX12_makeLatest_95 : decode prog_14_method_96_code 95 = .ok (.iload_n 2, 1) := by decide +kernel
theorem dX12_makeLatest_96 : decode prog_14_method_96_code 96 = .ok (.iconst 1, 1) := by decide +kernel
theorem dX12_makeLatest_97 : decode prog_14_method_96_code 97 = .ok (.isub, 1) := by decide +kernel
theorem dX12_makeLatest_98 : decode prog_14_method_96_code 98 = .ok (.imul, 1) := by decide +kernel
theorem dX12_makeLatest_99 : decode prog_14_method_96_code 99 = .ok (.iload 6, 2) := by decide +kernel
theorem dX12_makeLatest_101 : decode prog_14_method_96_code 101 = .ok (.iadd, 1) := by decide +kernel
theorem dX12_makeLatest_102 : decode prog_14_method_96_code 102 = .ok (.iaload, 1) := by decide +kernel
theorem dX12_makeLatest_103 : decode prog_14_method_96_code 103 = .ok (.istore 7, 2) := by decide +kernel
theorem dX12_makeLatest_105 : decode prog_14_method_96_code 105 = .ok (.iload 7, 2) := by decide +kernel
theorem dX12_makeLatest_107 : decode prog_14_method_96_code 107 = .ok (.aload_n 0, 1) := by decide +kernel
theorem dX12_makeLatest_108 : decode prog_14_method_96_code 108 = .ok (.getfield 167, 3) := by decide +kernel
theorem dX12_makeLatest_111 : decode prog_14_method_96_code 111 = .ok (.iload 6, 2) := by decide +kernel
theorem dX12_makeLatest_113 : decode prog_14_method_96_code 113 = .ok (.iaload, 1) := by decide +kernel
theorem dX12_makeLatest_114 : decode prog_14_method_96_code 114 = .ok (.if_icmp .lt 40, 3) := by decide +kernel
theorem dX12_makeLatest_117 : decode prog_14_method_96_code 117 = .ok (.aload_n 0, 1) := by decide +kernel
theorem dX12_makeLatest_118 : decode prog_14_method_96_code 118 = .ok (.getfield 197, 3) := by decide +kernel
theorem dX12_makeLatest_121 : decode prog_14_method_96_code 121 = .ok (.bipush 30, 2) := by decide +kernel
theorem dX12_makeLatest_123 : decode prog_14_method_96_code 123 = .ok (.iload_n 3, 1) := by decide +kernel
theorem dX12_makeLatest_124 : decode prog_14_method_96_code 124 = .ok (.imul, 1) := by decide +kernel
theorem dX12_makeLatest_125 : decode prog_14_method_96_code 125 = .ok (.iload 6, 2) := by decide +kernel
theorem dX12_makeLatest_127 : decode prog_14_method_96_code 127 = .ok (.iadd, 1) := by decide +kernel
theorem dX12_makeLatest_128 : decode prog_14_method_96_code 128 = .ok (.baload, 1) := by decide +kernel
theorem dX12_makeLatest_129 : decode prog_14_method_96_code 129 = .ok (.ifCond .ne 6, 3) := by decide +kernel
theorem dX12_makeLatest_132 : decode prog_14_method_96_code 132 = .ok (.goto 22, 3) := by decide +kernel
theorem dX12_makeLatest_135 : decode prog_14_method_96_code 135 = .ok (.iload 4, 2) := by decide +kernel
theorem dX12_makeLatest_137 : decode prog_14_method_96_code 137 = .ok (.aload_n 0, 1) := by decide +kernel
theorem dX12_makeLatest_138 : decode prog_14_method_96_code 138 = .ok (.getfield 170, 3) := by decide +kernel
theorem dX12_makeLatest_141 : decode prog_14_method_96_code 141 = .ok (.iload 6, 2) := by decide +kernel
theorem dX12_makeLatest_143 : decode prog_14_method_96_code 143 = .ok (.iaload, 1) := by decide +kernel
theorem dX12_makeLatest_144 : decode prog_14_method_96_code 144 = .ok (.iload 7, 2) := by decide +kernel
theorem dX12_makeLatest_146 : decode prog_14_method_96_code 146 = .ok (.invokestatic 414, 3) := by decide +kernel
theorem dX12_makeLatest_149 : decode prog_14_method_96_code 149 = .ok (.invokestatic 417, 3) := by decide +kernel
theorem dX12_makeLatest_152 : decode prog_14_method_96_code 152 = .ok (.istore 4, 2) := by decide +kernel
theorem dX12_makeLatest_154 : decode prog_14_method_96_code 154 = .ok (.iinc 6 1, 3) := by decide +kernel
theorem dX12_makeLatest_157 : decode prog_14_method_96_code 157 = .ok (.goto (-86), 3) := by decide +kernel
theorem dX12_makeLatest_160 : decode prog_14_method_96_code 160 = .ok (.aload_n 0, 1) := by decide +kernel
theorem dX12_makeLatest_161 : decode prog_14_method_96_code 161 = .ok (.getfield 194, 3) := by decide +kernel
theorem dX12_makeLatest_164 : decode prog_14_method_96_code 164 = .ok (.bipush 30, 2) := by decide +kernel
theorem dX12_makeLatest_166 : decode prog_14_method_96_code 166 = .ok (.iload_n 2, 1) := by decide +kernel
theorem dX12_makeLatest_167 : decode prog_14_method_96_code 167 = .ok (.imul, 1) := by decide +kernel
theorem dX12_makeLatest_168 : decode prog_14_method_96_code 168 = .ok (.iload_n 3, 1) := by decide +kernel
theorem dX12_makeLatest_169 : decode prog_14_method_96_code 169 = .ok (.iadd, 1) := by decide +kernel
theorem dX12_makeLatest_170 : decode prog_14_method_96_code 170 = .ok (.iload 4, 2) := by decide +kernel
theorem dX12_makeLatest_172 : decode prog_14_method_96_code 172 = .ok (.iastore, 1) := by decide +kernel
theorem dX12_makeLatest_173 : decode prog_14_method_96_code 173 = .ok (.iinc 3 1, 3) := by decide +kernel
theorem dX12_makeLatest_176 : decode prog_14_method_96_code 176 = .ok (.goto (-166), 3) := by decide +kernel
theorem dX12_makeLatest_179 : decode prog_14_method_96_code 179 = .ok (.iinc 2 1, 3) := by decide +kernel
theorem dX12_makeLatest_182 : decode prog_14_method_96_code 182 = .ok (.goto (-180), 3) := by decide +kernel
theorem dX12_makeLatest_185 : decode prog_14_method_96_code 185 = .ok (.return_, 1) := by decide +kernel
abbrev A_X12_makeLatest_2 (l : Launch) (E : bE) (Q : bM → Prop) (v1 : Int) : (Int × bM) → Prop := (fun t : Int × bM => V l E xX12_makeLatest (0, 0) 2 [(0, bR 11), (1, bI v1), (2, bI (t.1))] [] t.2 (b_pV Q))
abbrev X_X12_makeLatest_2 (l : Launch) (E : bE) (Q : bM → Prop) (v1 : Int) : (bM) → Prop := (fun t : bM => V l E xX12_makeLatest (0, 0) 185 [] [] t (b_pV Q))
abbrev A_X12_makeLatest_10 (l : Launch) (E : bE) (Q : bM → Prop) (v1 : Int) (v2 : Int) : (Int × bM) → Prop := (fun t : Int × bM => V l E xX12_makeLatest (0, 0) 10 [(0, bR 11), (1, bI v1), (2, bI v2), (3, bI (t.1))] [] t.2 (b_pV Q))
abbrev X_X12_makeLatest_10 (l : Launch) (E : bE) (Q : bM → Prop) (v1 : Int) (v2 : Int) : (bM) → Prop := (fun t : bM => V l E xX12_makeLatest (0, 0) 179 [(0, bR 11), (1, bI v1), (2, bI v2)] [] t (b_pV Q))
abbrev A_X12_makeLatest_71 (l : Launch) (E : bE) (Q : bM → Prop) (v1 : Int) (v2 : Int) (v3 : Int) (v5 : Int) (M : bM) : (Int × Int) → Prop := (fun t : Int × Int => V l E xX12_makeLatest (0, 0) 71 [(0, bR 11), (1, bI v1), (2, bI v2), (3, bI v3), (4, bI (t.1)), (5, bI v5), (6, bI (t.2))] [] M (b_pV Q))
abbrev X_X12_makeLatest_71 (l : Launch) (E : bE) (Q : bM → Prop) (v1 : Int) (v2 : Int) (v3 : Int) (v5 : Int) (M : bM) : (Int) → Prop := (fun t : Int => V l E xX12_makeLatest (0, 0) 160 [(0, bR 11), (1, bI v1), (2, bI v2), (3, bI v3), (4, bI t)] [] M (b_pV Q))
noncomputable def F_X12_makeLatest_s71 (v1 : Int) (v2 : Int) (v3 : Int) (v4 : Int) (v5 : Int) (v6 : Int) (M : bM) : Option ((Int × Int) ⊕ (Int)) :=
  if (M 11 52) ≤ v6 then (some (.inr (v4))) else (if v2 ≤ 0 then (some (.inr (v4))) else (if v5 = 0 then (some (.inr (v4))) else (b_g ((b_i32 (v2 - 1)) ∧ (b_i32 (30 * (v2 - 1))) ∧ (b_i32 ((30 * (v2 - 1)) + v6)) ∧ (0 ≤ ((30 * (v2 - 1)) + v6) ∧ ((30 * (v2 - 1)) + v6) < 240)) (b_let ((M 220 ((30 * (v2 - 1)) + v6))) (fun y13 => b_g (0 ≤ v6 ∧ v6 < 30) (if y13 < (M 211 v6) then (b_g (b_i32 (v6 + 1)) (some (.inl (v4, (v6 + 1))))) else (b_g ((b_i32 (30 * v3)) ∧ (b_i32 ((30 * v3) + v6)) ∧ (0 ≤ ((30 * v3) + v6) ∧ ((30 * v3) + v6) < 900)) (if (M 221 ((30 * v3) + v6)) = 0 then (b_g (b_i32 (v6 + 1)) (some (.inl (v4, (v6 + 1))))) else (b_g (0 ≤ v6 ∧ v6 < 30) (b_bind (F_X12_lesser (M 212 v6) y13 M) (fun x22 => b_bind (F_X12_greater v4 x22 M) (fun x23 => b_g (b_i32 (v6 + 1)) (some (.inl (x23, (v6 + 1))))))))))))))))
theorem t_X12_makeLatest_s71 {l : Launch} {E : bE} {Q : bM → Prop} {v1 : Int} {v2 : Int} {v3 : Int} {v4 : Int} {v5 : Int} {v6 : Int} {M : bM} (h : b_wp (F_X12_makeLatest_s71 v1 v2 v3 v4 v5 v6 M) (Sum.elim (A_X12_makeLatest_71 l E Q v1 v2 v3 v5 M) (X_X12_makeLatest_71 l E Q v1 v2 v3 v5 M))) : V l E xX12_makeLatest (0, 0) 71 [(0, bR 11), (1, bI v1), (2, bI v2), (3, bI v3), (4, bI v4), (5, bI v5), (6, bI v6)] [] M (b_pV Q) := by
  unfold F_X12_makeLatest_s71 at h
  refine v_iload (i := 6) 6 rfl dX12_makeLatest_71 ?_
  refine v_aload_n (f := 0) 0 rfl dX12_makeLatest_73 ?_
  refine v_getI (kf := 52) (kz := 52) rfl kd_11 rfl ⟨by decide, by decide⟩ rfl wf_12_496 dX12_makeLatest_74 ?_
  refine v_icmp_ge (tgt := 160) dX12_makeLatest_77 (by decide) (fun c6 => ?_) (fun c6 => ?_)
  · replace h := b_wp_t c6 h
    refine v_sub (ls2 := [(0, bR _), (1, bI _), (2, bI _), (3, bI _), (4, bI _)]) [0, 1, 2, 3, 4] rfl ?_
    exact h
  · replace h := b_wp_f c6 h
    refine v_iload_n (f := 2) 2 rfl dX12_makeLatest_80 ?_
    refine v_if_le (tgt := 160) dX12_makeLatest_81 (by decide) (fun c7 => ?_) (fun c7 => ?_)
    · replace h := b_wp_t c7 h
      refine v_sub (ls2 := [(0, bR _), (1, bI _), (2, bI _), (3, bI _), (4, bI _)]) [0, 1, 2, 3, 4] rfl ?_
      exact h
    · replace h := b_wp_f c7 h
      refine v_iload (i := 5) 5 rfl dX12_makeLatest_84 ?_
      refine v_if_eq (tgt := 160) dX12_makeLatest_86 (by decide) (fun c8 => ?_) (fun c8 => ?_)
      · replace h := b_wp_t c8 h
        refine v_sub (ls2 := [(0, bR _), (1, bI _), (2, bI _), (3, bI _), (4, bI _)]) [0, 1, 2, 3, 4] rfl ?_
        exact h
      · replace h := b_wp_f c8 h
        obtain ⟨⟨g9, g10, g11, g12⟩, h⟩ := b_wp_g h
        refine v_aload_n (f := 0) 0 rfl dX12_makeLatest_89 ?_
        refine v_getR (kf := 89) (kz := 89) rfl kd_11 rfl ⟨by decide, by decide⟩ rfl wf_12_194 dX12_makeLatest_90 ?_
        refine v_bipush ⟨by decide, by decide⟩ (by decide) dX12_makeLatest_93 ?_
        refine v_iload_n (f := 2) 2 rfl dX12_makeLatest_95 ?_
        refine v_iconst ⟨by decide, by decide⟩ dX12_makeLatest_96 ?_
        refine v_isubN g9 dX12_makeLatest_97 ?_
        refine v_imulN g10 dX12_makeLatest_98 ?_
        refine v_iload (i := 6) 6 rfl dX12_makeLatest_99 ?_
        refine v_iaddN g11 dX12_makeLatest_101 ?_
        refine v_iaload kd_220 g12 (by decide) dX12_makeLatest_102 ?_
        replace h := b_wp_l h
        obtain ⟨g14, h⟩ := b_wp_g h
        refine v_istore (i := 7) (ls' := [(7, bI _), (0, bR _), (1, bI _), (2, bI _), (3, bI _), (4, bI _), (5, bI _), (6, bI _)]) (by decide) dX12_makeLatest_103 rfl ?_
        refine v_iload (i := 7) 0 rfl dX12_makeLatest_105 ?_
        refine v_aload_n (f := 0) 1 rfl dX12_makeLatest_107 ?_
        refine v_getR (kf := 72) (kz := 72) rfl kd_11 rfl ⟨by decide, by decide⟩ rfl wf_12_167 dX12_makeLatest_108 ?_
        refine v_iload (i := 6) 7 rfl dX12_makeLatest_111 ?_
        refine v_iaload kd_211 g14 (by decide) dX12_makeLatest_113 ?_
        refine v_icmp_lt (tgt := 154) dX12_makeLatest_114 (by decide) (fun c15 => ?_) (fun c15 => ?_)
        · replace h := b_wp_t c15 h
          obtain ⟨g16, h⟩ := b_wp_g h
          refine v_iincN (ls' := [(6, bI _), (7, bI _), (0, bR _), (1, bI _), (2, bI _), (3, bI _), (4, bI _), (5, bI _)]) 7 rfl (by decide) g16 dX12_makeLatest_154 rfl ?_
          refine v_goto (tgt := 71) dX12_makeLatest_157 (by decide) ?_
          refine v_sub (ls2 := [(0, bR _), (1, bI _), (2, bI _), (3, bI _), (4, bI _), (5, bI _), (6, bI _)]) [2, 3, 4, 5, 6, 7, 0] rfl ?_
          exact h
        · replace h := b_wp_f c15 h
          obtain ⟨⟨g17, g18, g19⟩, h⟩ := b_wp_g h
          refine v_aload_n (f := 0) 1 rfl dX12_makeLatest_117 ?_
          refine v_getR (kf := 90) (kz := 90) rfl kd_11 rfl ⟨by decide, by decide⟩ rfl wf_12_197 dX12_makeLatest_118 ?_
          refine v_bipush ⟨by decide, by decide⟩ (by decide) dX12_makeLatest_121 ?_
          refine v_iload_n (f := 3) 4 rfl dX12_makeLatest_123 ?_
          refine v_imulN g17 dX12_makeLatest_124 ?_
          refine v_iload (i := 6) 7 rfl dX12_makeLatest_125 ?_
          refine v_iaddN g18 dX12_makeLatest_127 ?_
          refine v_zaload kd_221 g19 (by decide) dX12_makeLatest_128 ?_
          refine v_if_ne (tgt := 135) dX12_makeLatest_129 (by decide) (fun c20 => ?_) (fun c20 => ?_)
          · replace h := b_wp_f c20 h
            obtain ⟨g21, h⟩ := b_wp_g h
            refine v_iload (i := 4) 5 rfl dX12_makeLatest_135 ?_
            refine v_aload_n (f := 0) 1 rfl dX12_makeLatest_137 ?_
            refine v_getR (kf := 73) (kz := 73) rfl kd_11 rfl ⟨by decide, by decide⟩ rfl wf_12_170 dX12_makeLatest_138 ?_
            refine v_iload (i := 6) 7 rfl dX12_makeLatest_141 ?_
            refine v_iaload kd_212 g21 (by decide) dX12_makeLatest_143 ?_
            refine v_iload (i := 7) 0 rfl dX12_makeLatest_144 ?_
            refine v_cSIp (nA := 2) (As := [bI _, bI _]) (ix := 414) (cf_X12_lesser (b_wp_b h)) rfl wc_X12_lesser wm_12_414 wi_X12_lesser wn_12 ⟨by decide, by decide, by decide⟩ rfl ⟨by decide, by decide⟩ ⟨by decide, by decide⟩ (Nat.le_of_ble_eq_true rfl) dX12_makeLatest_146 (fun x22 h => ?_)
            refine v_cSIp (nA := 2) (As := [bI _, bI _]) (ix := 417) (cf_X12_greater (b_wp_b h)) rfl wc_X12_greater wm_12_417 wi_X12_greater wn_12 ⟨by decide, by decide, by decide⟩ rfl ⟨by decide, by decide⟩ ⟨by decide, by decide⟩ (Nat.le_of_ble_eq_true rfl) dX12_makeLatest_149 (fun x23 h => ?_)
            obtain ⟨g24, h⟩ := b_wp_g h
            refine v_istore (i := 4) (ls' := [(4, bI _), (7, bI _), (0, bR _), (1, bI _), (2, bI _), (3, bI _), (5, bI _), (6, bI _)]) (by decide) dX12_makeLatest_152 rfl ?_
            refine v_iincN (ls' := [(6, bI _), (4, bI _), (7, bI _), (0, bR _), (1, bI _), (2, bI _), (3, bI _), (5, bI _)]) 7 rfl (by decide) g24 dX12_makeLatest_154 rfl ?_
            refine v_goto (tgt := 71) dX12_makeLatest_157 (by decide) ?_
            refine v_sub (ls2 := [(0, bR _), (1, bI _), (2, bI _), (3, bI _), (4, bI _), (5, bI _), (6, bI _)]) [3, 4, 5, 6, 1, 7, 0] rfl ?_
            exact h
          · replace h := b_wp_t c20 h
            obtain ⟨g25, h⟩ := b_wp_g h
            refine v_goto (tgt := 154) dX12_makeLatest_132 (by decide) ?_
            refine v_iincN (ls' := [(6, bI _), (7, bI _), (0, bR _), (1, bI _), (2, bI _), (3, bI _), (4, bI _), (5, bI _)]) 7 rfl (by decide) g25 dX12_makeLatest_154 rfl ?_
            refine v_goto (tgt := 71) dX12_makeLatest_157 (by decide) ?_
            refine v_sub (ls2 := [(0, bR _), (1, bI _), (2, bI _), (3, bI _), (4, bI _), (5, bI _), (6, bI _)]) [2, 3, 4, 5, 6, 7, 0] rfl ?_
            exact h
theorem l_X12_makeLatest_71 {l : Launch} {E : bE} {Q : bM → Prop} {v1 : Int} {v2 : Int} {v3 : Int} {v5 : Int} {M : bM} {s : Int × Int} (h : b_wp (b_loop (fun t => F_X12_makeLatest_s71 v1 v2 v3 t.1 v5 t.2 M) s) (X_X12_makeLatest_71 l E Q v1 v2 v3 v5 M)) : A_X12_makeLatest_71 l E Q v1 v2 v3 v5 M s := b_loop_wp (fun t h => t_X12_makeLatest_s71 h) s h
noncomputable def F_X12_makeLatest_b160 (v1 : Int) (v2 : Int) (v3 : Int) (v4 : Int) (M : bM) : Option ((Int × bM) ⊕ (bM)) :=
  b_g ((b_i32 (30 * v2)) ∧ (b_i32 ((30 * v2) + v3)) ∧ (0 ≤ ((30 * v2) + v3) ∧ ((30 * v2) + v3) < 240)) (b_let (b_up M 220 ((30 * v2) + v3) v4) (fun M29 => b_g (b_i32 (v3 + 1)) (some (.inl ((v3 + 1), M29)))))
theorem t_X12_makeLatest_b160 {l : Launch} {E : bE} {Q : bM → Prop} {v1 : Int} {v2 : Int} {v3 : Int} {v4 : Int} {M : bM} (h : b_wp (F_X12_makeLatest_b160 v1 v2 v3 v4 M) (Sum.elim (A_X12_makeLatest_10 l E Q v1 v2) (X_X12_makeLatest_10 l E Q v1 v2))) : V l E xX12_makeLatest (0, 0) 160 [(0, bR 11), (1, bI v1), (2, bI v2), (3, bI v3), (4, bI v4)] [] M (b_pV Q) := by
  unfold F_X12_makeLatest_b160 at h
  obtain ⟨⟨g26, g27, g28⟩, h⟩ := b_wp_g h
  refine v_aload_n (f := 0) 0 rfl dX12_makeLatest_160 ?_
  refine v_getR (kf := 89) (kz := 89) rfl kd_11 rfl ⟨by decide, by decide⟩ rfl wf_12_194 dX12_makeLatest_161 ?_
  refine v_bipush ⟨by decide, by decide⟩ (by decide) dX12_makeLatest_164 ?_
  refine v_iload_n (f := 2) 2 rfl dX12_makeLatest_166 ?_
  refine v_imulN g26 dX12_makeLatest_167 ?_
  refine v_iload_n (f := 3) 3 rfl dX12_makeLatest_168 ?_
  refine v_iaddN g27 dX12_makeLatest_169 ?_
  refine v_iload (i := 4) 4 rfl dX12_makeLatest_170 ?_
  refine v_iastore kd_220 g28 (by decide) dX12_makeLatest_172 ?_
  replace h := b_wp_l h
  obtain ⟨g30, h⟩ := b_wp_g h
  refine v_iincN (ls' := [(3, bI _), (0, bR _), (1, bI _), (2, bI _), (4, bI _)]) 3 rfl (by decide) g30 dX12_makeLatest_173 rfl ?_
  refine v_goto (tgt := 10) dX12_makeLatest_176 (by decide) ?_
  refine v_sub (ls2 := [(0, bR _), (1, bI _), (2, bI _), (3, bI _)]) [1, 2, 3, 0] rfl ?_
  exact h
noncomputable def F_X12_makeLatest_b68 (v1 : Int) (v2 : Int) (v3 : Int) (v4 : Int) (v5 : Int) (M : bM) : Option ((Int × bM) ⊕ (bM)) :=
  b_bind (b_loop (fun t => F_X12_makeLatest_s71 v1 v2 v3 t.1 v5 t.2 M) (v4, 0)) (fun t => F_X12_makeLatest_b160 v1 v2 v3 t M)
theorem t_X12_makeLatest_b68 {l : Launch} {E : bE} {Q : bM → Prop} {v1 : Int} {v2 : Int} {v3 : Int} {v4 : Int} {v5 : Int} {M : bM} (h : b_wp (F_X12_makeLatest_b68 v1 v2 v3 v4 v5 M) (Sum.elim (A_X12_makeLatest_10 l E Q v1 v2) (X_X12_makeLatest_10 l E Q v1 v2))) : V l E xX12_makeLatest (0, 0) 68 [(0, bR 11), (1, bI v1), (2, bI v2), (3, bI v3), (4, bI v4), (5, bI v5)] [] M (b_pV Q) := by
  unfold F_X12_makeLatest_b68 at h
  refine v_iconst ⟨by decide, by decide⟩ dX12_makeLatest_68 ?_
  refine v_istore (i := 6) (ls' := [(6, bI _), (0, bR _), (1, bI _), (2, bI _), (3, bI _), (4, bI _), (5, bI _)]) (by decide) dX12_makeLatest_69 rfl ?_
  refine v_sub (ls2 := [(0, bR _), (1, bI _), (2, bI _), (3, bI _), (4, bI _), (5, bI _), (6, bI _)]) [1, 2, 3, 4, 5, 6, 0] rfl ?_
  refine l_X12_makeLatest_71 (b_wp_m (fun t h => ?_) (b_wp_b h))
  show V l E xX12_makeLatest (0, 0) 160 [(0, bR 11), (1, bI _), (2, bI _), (3, bI _), (4, bI _)] [] _ (b_pV Q)
  exact t_X12_makeLatest_b160 h
noncomputable def F_X12_makeLatest_b43 (v1 : Int) (v2 : Int) (v3 : Int) (v4 : Int) (u0 : Int) (M : bM) : Option ((Int × bM) ⊕ (bM)) :=
  if v2 = 0 then (if u0 = 0 then (F_X12_makeLatest_b68 v1 v2 v3 v4 u0 M) else (b_g (0 ≤ v3 ∧ v3 < 30) (if (M 223 v3) = 0 then (F_X12_makeLatest_b68 v1 v2 v3 v4 u0 M) else (F_X12_makeLatest_b68 v1 v2 v3 9999 u0 M)))) else (F_X12_makeLatest_b68 v1 v2 v3 v4 u0 M)
theorem t_X12_makeLatest_b43 {l : Launch} {E : bE} {Q : bM → Prop} {v1 : Int} {v2 : Int} {v3 : Int} {v4 : Int} {u0 : Int} {M : bM} (h : b_wp (F_X12_makeLatest_b43 v1 v2 v3 v4 u0 M) (Sum.elim (A_X12_makeLatest_10 l E Q v1 v2) (X_X12_makeLatest_10 l E Q v1 v2))) : V l E xX12_makeLatest (0, 0) 43 [(0, bR 11), (1, bI v1), (2, bI v2), (3, bI v3), (4, bI v4)] [bI u0] M (b_pV Q) := by
  unfold F_X12_makeLatest_b43 at h
  refine v_istore (i := 5) (ls' := [(5, bI _), (0, bR _), (1, bI _), (2, bI _), (3, bI _), (4, bI _)]) (by decide) dX12_makeLatest_43 rfl ?_
  refine v_iload_n (f := 2) 3 rfl dX12_makeLatest_45 ?_
  refine v_if_ne (tgt := 68) dX12_makeLatest_46 (by decide) (fun c5 => ?_) (fun c5 => ?_)
  · replace h := b_wp_f c5 h
    refine v_sub (ls2 := [(0, bR _), (1, bI _), (2, bI _), (3, bI _), (4, bI _), (5, bI _)]) [1, 2, 3, 4, 5, 0] rfl ?_
    exact t_X12_makeLatest_b68 h
  · replace h := b_wp_t c5 h
    refine v_iload (i := 5) 0 rfl dX12_makeLatest_49 ?_
    refine v_if_eq (tgt := 68) dX12_makeLatest_51 (by decide) (fun c31 => ?_) (fun c31 => ?_)
    · replace h := b_wp_t c31 h
      refine v_sub (ls2 := [(0, bR _), (1, bI _), (2, bI _), (3, bI _), (4, bI _), (5, bI _)]) [1, 2, 3, 4, 5, 0] rfl ?_
      exact t_X12_makeLatest_b68 h
    · replace h := b_wp_f c31 h
      obtain ⟨g32, h⟩ := b_wp_g h
      refine v_aload_n (f := 0) 1 rfl dX12_makeLatest_54 ?_
      refine v_getR (kf := 92) (kz := 92) rfl kd_11 rfl ⟨by decide, by decide⟩ rfl wf_12_203 dX12_makeLatest_55 ?_
      refine v_iload_n (f := 3) 4 rfl dX12_makeLatest_58 ?_
      refine v_zaload kd_223 g32 (by decide) dX12_makeLatest_59 ?_
      refine v_if_eq (tgt := 68) dX12_makeLatest_60 (by decide) (fun c33 => ?_) (fun c33 => ?_)
      · replace h := b_wp_t c33 h
        refine v_sub (ls2 := [(0, bR _), (1, bI _), (2, bI _), (3, bI _), (4, bI _), (5, bI _)]) [1, 2, 3, 4, 5, 0] rfl ?_
        exact t_X12_makeLatest_b68 h
      · replace h := b_wp_f c33 h
        refine v_sipush ⟨by decide, by decide⟩ (by decide) dX12_makeLatest_63 ?_
        refine v_istore (i := 4) (ls' := [(4, bI _), (5, bI _), (0, bR _), (1, bI _), (2, bI _), (3, bI _)]) (by decide) dX12_makeLatest_66 rfl ?_
        refine v_sub (ls2 := [(0, bR _), (1, bI _), (2, bI _), (3, bI _), (4, bI _), (5, bI _)]) [2, 3, 4, 5, 0, 1] rfl ?_
        exact t_X12_makeLatest_b68 h
noncomputable def F_X12_makeLatest_b42 (v1 : Int) (v2 : Int) (v3 : Int) (v4 : Int) (M : bM) : Option ((Int × bM) ⊕ (bM)) :=
  F_X12_makeLatest_b43 v1 v2 v3 v4 0 M
theorem t_X12_makeLatest_b42 {l : Launch} {E : bE} {Q : bM → Prop} {v1 : Int} {v2 : Int} {v3 : Int} {v4 : Int} {M : bM} (h : b_wp (F_X12_makeLatest_b42 v1 v2 v3 v4 M) (Sum.elim (A_X12_makeLatest_10 l E Q v1 v2) (X_X12_makeLatest_10 l E Q v1 v2))) : V l E xX12_makeLatest (0, 0) 42 [(0, bR 11), (1, bI v1), (2, bI v2), (3, bI v3), (4, bI v4)] [] M (b_pV Q) := by
  unfold F_X12_makeLatest_b42 at h
  refine v_iconst ⟨by decide, by decide⟩ dX12_makeLatest_42 ?_
  exact t_X12_makeLatest_b43 h
noncomputable def F_X12_makeLatest_s10 (v1 : Int) (v2 : Int) (v3 : Int) (M : bM) : Option ((Int × bM) ⊕ (bM)) :=
  if (M 11 52) ≤ v3 then (some (.inr (M))) else (b_bind (F_X12_isLink v3 M) (fun x3 => if x3 = 0 then (F_X12_makeLatest_b42 v1 v2 v3 (-1) M) else (b_bind (F_X12_pointsOf v3 M) (fun x34 => if x34 < v1 then (F_X12_makeLatest_b42 v1 v2 v3 (-1) M) else (F_X12_makeLatest_b43 v1 v2 v3 (-1) 1 M)))))
theorem t_X12_makeLatest_s10 {l : Launch} {E : bE} {Q : bM → Prop} {v1 : Int} {v2 : Int} {v3 : Int} {M : bM} (h : b_wp (F_X12_makeLatest_s10 v1 v2 v3 M) (Sum.elim (A_X12_makeLatest_10 l E Q v1 v2) (X_X12_makeLatest_10 l E Q v1 v2))) : V l E xX12_makeLatest (0, 0) 10 [(0, bR 11), (1, bI v1), (2, bI v2), (3, bI v3)] [] M (b_pV Q) := by
  unfold F_X12_makeLatest_s10 at h
  refine v_iload_n (f := 3) 3 rfl dX12_makeLatest_10 ?_
  refine v_aload_n (f := 0) 0 rfl dX12_makeLatest_11 ?_
  refine v_getI (kf := 52) (kz := 52) rfl kd_11 rfl ⟨by decide, by decide⟩ rfl wf_12_496 dX12_makeLatest_12 ?_
  refine v_icmp_ge (tgt := 179) dX12_makeLatest_15 (by decide) (fun c2 => ?_) (fun c2 => ?_)
  · replace h := b_wp_t c2 h
    refine v_sub (ls2 := [(0, bR _), (1, bI _), (2, bI _)]) [0, 1, 2] rfl ?_
    exact h
  · replace h := b_wp_f c2 h
    refine v_iconst ⟨by decide, by decide⟩ dX12_makeLatest_18 ?_
    refine v_istore (i := 4) (ls' := [(4, bI _), (0, bR _), (1, bI _), (2, bI _), (3, bI _)]) (by decide) dX12_makeLatest_19 rfl ?_
    refine v_aload_n (f := 0) 1 rfl dX12_makeLatest_21 ?_
    refine v_iload_n (f := 3) 4 rfl dX12_makeLatest_22 ?_
    refine v_cVIp (nA := 1) (As := [bI _]) (ix := 553) (cf_X12_isLink (b_wp_b h)) rfl kd_11 rfl rfl wc_X12_isLink wm_12_553 wi_X12_isLink ws_X12_isLink wn_12 ⟨by decide, by decide, by decide⟩ rfl ⟨by decide, by decide⟩ ⟨by decide, by decide⟩ (Nat.le_of_ble_eq_true rfl) dX12_makeLatest_23 (fun x3 h => ?_)
    refine v_if_eq (tgt := 42) dX12_makeLatest_26 (by decide) (fun c4 => ?_) (fun c4 => ?_)
    · replace h := b_wp_t c4 h
      refine v_sub (ls2 := [(0, bR _), (1, bI _), (2, bI _), (3, bI _), (4, bI _)]) [1, 2, 3, 4, 0] rfl ?_
      exact t_X12_makeLatest_b42 h
    · replace h := b_wp_f c4 h
      refine v_aload_n (f := 0) 1 rfl dX12_makeLatest_29 ?_
      refine v_iload_n (f := 3) 4 rfl dX12_makeLatest_30 ?_
      refine v_cVIp (nA := 1) (As := [bI _]) (ix := 537) (cf_X12_pointsOf (b_wp_b h)) rfl kd_11 rfl rfl wc_X12_pointsOf wm_12_537 wi_X12_pointsOf ws_X12_pointsOf wn_12 ⟨by decide, by decide, by decide⟩ rfl ⟨by decide, by decide⟩ ⟨by decide, by decide⟩ (Nat.le_of_ble_eq_true rfl) dX12_makeLatest_31 (fun x34 h => ?_)
      refine v_iload_n (f := 1) 2 rfl dX12_makeLatest_34 ?_
      refine v_icmp_lt (tgt := 42) dX12_makeLatest_35 (by decide) (fun c35 => ?_) (fun c35 => ?_)
      · replace h := b_wp_t c35 h
        refine v_sub (ls2 := [(0, bR _), (1, bI _), (2, bI _), (3, bI _), (4, bI _)]) [1, 2, 3, 4, 0] rfl ?_
        exact t_X12_makeLatest_b42 h
      · replace h := b_wp_f c35 h
        refine v_iconst ⟨by decide, by decide⟩ dX12_makeLatest_38 ?_
        refine v_goto (tgt := 43) dX12_makeLatest_39 (by decide) ?_
        refine v_sub (ls2 := [(0, bR _), (1, bI _), (2, bI _), (3, bI _), (4, bI _)]) [1, 2, 3, 4, 0] rfl ?_
        exact t_X12_makeLatest_b43 h
theorem l_X12_makeLatest_10 {l : Launch} {E : bE} {Q : bM → Prop} {v1 : Int} {v2 : Int} {s : Int × bM} (h : b_wp (b_loop (fun t => F_X12_makeLatest_s10 v1 v2 t.1 t.2) s) (X_X12_makeLatest_10 l E Q v1 v2)) : A_X12_makeLatest_10 l E Q v1 v2 s := b_loop_wp (fun t h => t_X12_makeLatest_s10 h) s h
noncomputable def F_X12_makeLatest_b179 (v1 : Int) (v2 : Int) (M : bM) : Option ((Int × bM) ⊕ (bM)) :=
  b_g (b_i32 (v2 + 1)) (some (.inl ((v2 + 1), M)))
theorem t_X12_makeLatest_b179 {l : Launch} {E : bE} {Q : bM → Prop} {v1 : Int} {v2 : Int} {M : bM} (h : b_wp (F_X12_makeLatest_b179 v1 v2 M) (Sum.elim (A_X12_makeLatest_2 l E Q v1) (X_X12_makeLatest_2 l E Q v1))) : V l E xX12_makeLatest (0, 0) 179 [(0, bR 11), (1, bI v1), (2, bI v2)] [] M (b_pV Q) := by
  unfold F_X12_makeLatest_b179 at h
  obtain ⟨g36, h⟩ := b_wp_g h
  refine v_iincN (ls' := [(2, bI _), (0, bR _), (1, bI _)]) 2 rfl (by decide) g36 dX12_makeLatest_179 rfl ?_
  refine v_goto (tgt := 2) dX12_makeLatest_182 (by decide) ?_
  refine v_sub (ls2 := [(0, bR _), (1, bI _), (2, bI _)]) [1, 2, 0] rfl ?_
  exact h
noncomputable def F_X12_makeLatest_s2 (v1 : Int) (v2 : Int) (M : bM) : Option ((Int × bM) ⊕ (bM)) :=
  if 8 ≤ v2 then (some (.inr (M))) else (b_bind (b_loop (fun t => F_X12_makeLatest_s10 v1 v2 t.1 t.2) (0, M)) (fun t => F_X12_makeLatest_b179 v1 v2 t))
theorem t_X12_makeLatest_s2 {l : Launch} {E : bE} {Q : bM → Prop} {v1 : Int} {v2 : Int} {M : bM} (h : b_wp (F_X12_makeLatest_s2 v1 v2 M) (Sum.elim (A_X12_makeLatest_2 l E Q v1) (X_X12_makeLatest_2 l E Q v1))) : V l E xX12_makeLatest (0, 0) 2 [(0, bR 11), (1, bI v1), (2, bI v2)] [] M (b_pV Q) := by
  unfold F_X12_makeLatest_s2 at h
  refine v_iload_n (f := 2) 2 rfl dX12_makeLatest_2 ?_
  refine v_bipush ⟨by decide, by decide⟩ (by decide) dX12_makeLatest_3 ?_
  refine v_icmp_ge (tgt := 185) dX12_makeLatest_5 (by decide) (fun c1 => ?_) (fun c1 => ?_)
  · replace h := b_wp_t c1 h
    refine v_sub (ls2 := []) [] rfl ?_
    exact h
  · replace h := b_wp_f c1 h
    refine v_iconst ⟨by decide, by decide⟩ dX12_makeLatest_8 ?_
    refine v_istore_n (g := 3) (i := 3) (ls' := [(3, bI _), (0, bR _), (1, bI _), (2, bI _)]) rfl (by decide) dX12_makeLatest_9 rfl ?_
    refine v_sub (ls2 := [(0, bR _), (1, bI _), (2, bI _), (3, bI _)]) [1, 2, 3, 0] rfl ?_
    refine l_X12_makeLatest_10 (b_wp_m (fun t h => ?_) (b_wp_b h))
    show V l E xX12_makeLatest (0, 0) 179 [(0, bR 11), (1, bI _), (2, bI _)] [] _ (b_pV Q)
    exact t_X12_makeLatest_b179 h
theorem l_X12_makeLatest_2 {l : Launch} {E : bE} {Q : bM → Prop} {v1 : Int} {s : Int × bM} (h : b_wp (b_loop (fun t => F_X12_makeLatest_s2 v1 t.1 t.2) s) (X_X12_makeLatest_2 l E Q v1)) : A_X12_makeLatest_2 l E Q v1 s := b_loop_wp (fun t h => t_X12_makeLatest_s2 h) s h
noncomputable def F_X12_makeLatest_b185 (M : bM) : Option (bM) :=
  some M
theorem t_X12_makeLatest_b185 {l : Launch} {E : bE} {Q : bM → Prop} {M : bM} (h : b_wp (F_X12_makeLatest_b185 M) (Q)) : V l E xX12_makeLatest (0, 0) 185 [] [] M (b_pV Q) := by
  unfold F_X12_makeLatest_b185 at h
  refine v_return rfl dX12_makeLatest_185 ⟨by decide, by decide⟩ ?_
  exact ⟨rfl, h⟩
noncomputable def F_X12_makeLatest (v1 : Int) (M : bM) : Option (bM) :=
  b_bind (b_loop (fun t => F_X12_makeLatest_s2 v1 t.1 t.2) (0, M)) (fun t => F_X12_makeLatest_b185 t)
theorem t_X12_makeLatest {l : Launch} {E : bE} {Q : bM → Prop} {v1 : Int} {M : bM} (h : b_wp (F_X12_makeLatest v1 M) (Q)) : V l E xX12_makeLatest (0, 0) 0 [(0, bR 11), (1, bI v1)] [] M (b_pV Q) := by
  unfold F_X12_makeLatest at h
  refine v_iconst ⟨by decide, by decide⟩ dX12_makeLatest_0 ?_
  refine v_istore_n (g := 2) (i := 2) (ls' := [(2, bI _), (0, bR _), (1, bI _)]) rfl (by decide) dX12_makeLatest_1 rfl ?_
  refine v_sub (ls2 := [(0, bR _), (1, bI _), (2, bI _)]) [1, 2, 0] rfl ?_
  refine l_X12_makeLatest_2 (b_wp_m (fun t h => ?_) (b_wp_b h))
  show V l E xX12_makeLatest (0, 0) 185 [] [] _ (b_pV Q)
  exact t_X12_makeLatest_b185 h
theorem cf_X12_makeLatest {l : Launch} {E : bE} {M : bM} {v1 : Int} {Q : bM → Prop} (h : b_wp (F_X12_makeLatest v1 M) Q) : b_C l E xX12_makeLatest yX12_makeLatest [bR 11, bI v1] M (b_pV Q) := b_met (by decide) ⟨rfl, rfl⟩ (Nat.le_of_ble_eq_true rfl) (fun _ _ => t_X12_makeLatest h)
abbrev xX12_canBegin : bX := ("BurntHallModel", prog_14_method_97_code, 4, (Option.some Jvm.ClassFile.FieldType.boolean), b_rm 2 0 0, 0, "canBegin")
abbrev yX12_canBegin : MethodName := ⟨"BurntHallModel", "canBegin", "(III)Z"⟩
theorem dX12_canBegin_0 : decode prog_14_method_97_code 0 = .ok (.aload_n 0, 1) := by decide +kernel
theorem dX12_canBegin_1 : decode prog_14_method_97_code 1 = .ok (.getfield 200, 3) := by decide +kernel
theorem dX12_canBegin_4 : decode prog_14_method_97_code 4 = .ok (.bipush 30, 2) := by decide +kernel
theorem dX12_canBegin_6 : decode prog_14_method_97_code 6 = .ok (.iload_n 1, 1) := by decide +kernel
theorem dX12_canBegin_7 : decode prog_14_method_97_code 7 = .ok (.imul, 1) := by decide +kernel
theorem dX12_canBegin_8 : decode prog_14_method_97_code 8 = .ok (.iload_n 2, 1) := by decide +kernel
theorem dX12_canBegin_9 : decode prog_14_method_97_code 9 = .ok (.iadd, 1) := by decide +kernel
theorem dX12_canBegin_10 : decode prog_14_method_97_code 10 = .ok (.baload, 1) := by decide +kernel
theorem dX12_canBegin_11 : decode prog_14_method_97_code 11 = .ok (.ifCond .eq 36, 3) := by decide +kernel
theorem dX12_canBegin_14 : decode prog_14_method_97_code 14 = .ok (.aload_n 0, 1) := by decide +kernel
theorem dX12_canBegin_15 : decode prog_14_method_97_code 15 = .ok (.getfield 167, 3) := by decide +kernel
theorem dX12_canBegin_18 : decode prog_14_method_97_code 18 = .ok (.iload_n 2, 1) := by decide +kernel
theorem dX12_canBegin_19 : decode prog_14_method_97_code 19 = .ok (.iaload, 1) := by decide +kernel
theorem dX12_canBegin_20 : decode prog_14_method_97_code 20 = .ok (.aload_n 0, 1) := by decide +kernel
theorem dX12_canBegin_21 : decode prog_14_method_97_code 21 = .ok (.getfield 188, 3) := by decide +kernel
theorem dX12_canBegin_24 : decode prog_14_method_97_code 24 = .ok (.iload_n 1, 1) := by decide +kernel
theorem dX12_canBegin_25 : decode prog_14_method_97_code 25 = .ok (.iaload, 1) := by decide +kernel
theorem dX12_canBegin_26 : decode prog_14_method_97_code 26 = .ok (.invokestatic 417, 3) := by decide +kernel
theorem dX12_canBegin_29 : decode prog_14_method_97_code 29 = .ok (.aload_n 0, 1) := by decide +kernel
theorem dX12_canBegin_30 : decode prog_14_method_97_code 30 = .ok (.getfield 194, 3) := by decide +kernel
theorem dX12_canBegin_33 : decode prog_14_method_97_code 33 = .ok (.bipush 30, 2) := by decide +kernel
theorem dX12_canBegin_35 : decode prog_14_method_97_code 35 = .ok (.iload_n 3, 1) := by decide +kernel
theorem dX12_canBegin_36 : decode prog_14_method_97_code 36 = .ok (.imul, 1) := by decide +kernel
theorem dX12_canBegin_37 : decode prog_14_method_97_code 37 = .ok (.iload_n 2, 1) := by decide +kernel
theorem dX12_canBegin_38 : decode prog_14_method_97_code 38 = .ok (.iadd, 1) := by decide +kernel
theorem dX12_canBegin_39 : decode prog_14_method_97_code 39 = .ok (.iaload, 1) := by decide +kernel
theorem dX12_canBegin_40 : decode prog_14_method_97_code 40 = .ok (.if_icmp .gt 7, 3) := by decide +kernel
theorem dX12_canBegin_43 : decode prog_14_method_97_code 43 = .ok (.iconst 1, 1) := by decide +kernel
theorem dX12_canBegin_44 : decode prog_14_method_97_code 44 = .ok (.goto 4, 3) := by decide +kernel
theorem dX12_canBegin_47 : decode prog_14_method_97_code 47 = .ok (.iconst 0, 1) := by decide +kernel
theorem dX12_canBegin_48 : decode prog_14_method_97_code 48 = .ok (.ireturn, 1) := by decide +kernel
noncomputable def F_X12_canBegin (v1 : Int) (v2 : Int) (v3 : Int) (M : bM) : Option (Int) :=
  b_g ((b_i32 (30 * v1)) ∧ (b_i32 ((30 * v1) + v2)) ∧ (0 ≤ ((30 * v1) + v2) ∧ ((30 * v1) + v2) < 1800)) (if (M 222 ((30 * v1) + v2)) = 0 then (some 0) else (b_g ((0 ≤ v2 ∧ v2 < 30) ∧ (0 ≤ v1 ∧ v1 < 60)) (b_bind (F_X12_greater (M 211 v2) (M 218 v1) M) (fun x7 => b_g ((b_i32 (30 * v3)) ∧ (b_i32 ((30 * v3) + v2)) ∧ (0 ≤ ((30 * v3) + v2) ∧ ((30 * v3) + v2) < 240)) (if (M 220 ((30 * v3) + v2)) < x7 then (some 0) else (some 1))))))
theorem t_X12_canBegin {l : Launch} {E : bE} {Q : Int → Prop} {v1 : Int} {v2 : Int} {v3 : Int} {M : bM} (h : b_wp (F_X12_canBegin v1 v2 v3 M) (Q)) : V l E xX12_canBegin (0, 0) 0 [(0, bR 11), (1, bI v1), (2, bI v2), (3, bI v3)] [] M (b_pIp M Q) := by
  unfold F_X12_canBegin at h
  obtain ⟨⟨g1, g2, g3⟩, h⟩ := b_wp_g h
  refine v_aload_n (f := 0) 0 rfl dX12_canBegin_0 ?_
  refine v_getR (kf := 91) (kz := 91) rfl kd_11 rfl ⟨by decide, by decide⟩ rfl wf_12_200 dX12_canBegin_1 ?_
  refine v_bipush ⟨by decide, by decide⟩ (by decide) dX12_canBegin_4 ?_
  refine v_iload_n (f := 1) 1 rfl dX12_canBegin_6 ?_
  refine v_imulN g1 dX12_canBegin_7 ?_
  refine v_iload_n (f := 2) 2 rfl dX12_canBegin_8 ?_
  refine v_iaddN g2 dX12_canBegin_9 ?_
  refine v_zaload kd_222 g3 (by decide) dX12_canBegin_10 ?_
  refine v_if_eq (tgt := 47) dX12_canBegin_11 (by decide) (fun c4 => ?_) (fun c4 => ?_)
  · replace h := b_wp_t c4 h
    refine v_iconst ⟨by decide, by decide⟩ dX12_canBegin_47 ?_
    refine v_zreturn rfl (Or.inl rfl) dX12_canBegin_48 ⟨by decide, by decide⟩ ?_
    exact ⟨_, rfl, rfl, h⟩
  · replace h := b_wp_f c4 h
    obtain ⟨⟨g5, g6⟩, h⟩ := b_wp_g h
    refine v_aload_n (f := 0) 0 rfl dX12_canBegin_14 ?_
    refine v_getR (kf := 72) (kz := 72) rfl kd_11 rfl ⟨by decide, by decide⟩ rfl wf_12_167 dX12_canBegin_15 ?_
    refine v_iload_n (f := 2) 2 rfl dX12_canBegin_18 ?_
    refine v_iaload kd_211 g5 (by decide) dX12_canBegin_19 ?_
    refine v_aload_n (f := 0) 0 rfl dX12_canBegin_20 ?_
    refine v_getR (kf := 79) (kz := 79) rfl kd_11 rfl ⟨by decide, by decide⟩ rfl wf_12_188 dX12_canBegin_21 ?_
    refine v_iload_n (f := 1) 1 rfl dX12_canBegin_24 ?_
    refine v_iaload kd_218 g6 (by decide) dX12_canBegin_25 ?_
    refine v_cSIp (nA := 2) (As := [bI _, bI _]) (ix := 417) (cf_X12_greater (b_wp_b h)) rfl wc_X12_greater wm_12_417 wi_X12_greater wn_12 ⟨by decide, by decide, by decide⟩ rfl ⟨by decide, by decide⟩ ⟨by decide, by decide⟩ (Nat.le_of_ble_eq_true rfl) dX12_canBegin_26 (fun x7 h => ?_)
    obtain ⟨⟨g8, g9, g10⟩, h⟩ := b_wp_g h
    refine v_aload_n (f := 0) 0 rfl dX12_canBegin_29 ?_
    refine v_getR (kf := 89) (kz := 89) rfl kd_11 rfl ⟨by decide, by decide⟩ rfl wf_12_194 dX12_canBegin_30 ?_
    refine v_bipush ⟨by decide, by decide⟩ (by decide) dX12_canBegin_33 ?_
    refine v_iload_n (f := 3) 3 rfl dX12_canBegin_35 ?_
    refine v_imulN g8 dX12_canBegin_36 ?_
    refine v_iload_n (f := 2) 2 rfl dX12_canBegin_37 ?_
    refine v_iaddN g9 dX12_canBegin_38 ?_
    refine v_iaload kd_220 g10 (by decide) dX12_canBegin_39 ?_
    refine v_icmp_gt (tgt := 47) dX12_canBegin_40 (by decide) (fun c11 => ?_) (fun c11 => ?_)
    · replace h := b_wp_t c11 h
      refine v_iconst ⟨by decide, by decide⟩ dX12_canBegin_47 ?_
      refine v_zreturn rfl (Or.inl rfl) dX12_canBegin_48 ⟨by decide, by decide⟩ ?_
      exact ⟨_, rfl, rfl, h⟩
    · replace h := b_wp_f c11 h
      refine v_iconst ⟨by decide, by decide⟩ dX12_canBegin_43 ?_
      refine v_goto (tgt := 48) dX12_canBegin_44 (by decide) ?_
      refine v_zreturn rfl (Or.inr rfl) dX12_canBegin_48 ⟨by decide, by decide⟩ ?_
      exact ⟨_, rfl, rfl, h⟩
theorem cf_X12_canBegin {l : Launch} {E : bE} {M : bM} {v1 : Int} {v2 : Int} {v3 : Int} {Q : Int → Prop} (h : b_wp (F_X12_canBegin v1 v2 v3 M) Q) : b_C l E xX12_canBegin yX12_canBegin [bR 11, bI v1, bI v2, bI v3] M (b_pIp M Q) := b_met (by decide) ⟨rfl, rfl⟩ (Nat.le_of_ble_eq_true rfl) (fun _ _ => t_X12_canBegin h)
abbrev xX12_rootFor : bX := ("BurntHallModel", prog_14_method_98_code, 4, (Option.some Jvm.ClassFile.FieldType.int), b_rm 3 0 0, 0, "rootFor")
abbrev yX12_rootFor : MethodName := ⟨"BurntHallModel", "rootFor", "(I)I"⟩
theorem dX12_rootFor_0 : decode prog_14_method_98_code 0 = .ok (.iconst 0, 1) := by decide +kernel
theorem dX12_rootFor_1 : decode prog_14_method_98_code 1 = .ok (.istore_n 2, 1) := by decide +kernel
theorem dX12_rootFor_2 : decode prog_14_method_98_code 2 = .ok (.iload_n 2, 1) := by decide +kernel
theorem dX12_rootFor_3 : decode prog_14_method_98_code 3 = .ok (.aload_n 0, 1) := by decide +kernel
theorem dX12_rootFor_4 : decode prog_14_method_98_code 4 = .ok (.getfield 374, 3) := by decide +kernel
theorem dX12_rootFor_7 : decode prog_14_method_98_code 7 = .ok (.if_icmp .ge 37, 3) := by decide +kernel
theorem dX12_rootFor_10 : decode prog_14_method_98_code 10 = .ok (.iconst 0, 1) := by decide +kernel
theorem dX12_rootFor_11 : decode prog_14_method_98_code 11 = .ok (.istore_n 3, 1) := by decide +kernel
theorem dX12_rootFor_12 : decode prog_14_method_98_code 12 = .ok (.iload_n 3, 1) := by decide +kernel
theorem dX12_rootFor_13 : decode prog_14_method_98_code 13 = .ok (.aload_n 0, 1) := by decide +kernel
theorem dX12_rootFor_14 : decode prog_14_method_98_code 14 = .ok (.getfield 496, 3) := by decide +kernel
theorem dX12_rootFor_17 : decode prog_14_method_98_code 17 = .ok (.if_icmp .ge 21, 3) := by decide +kernel
theorem dX12_rootFor_20 : decode prog_14_method_98_code 20 = .ok (.aload_n 0, 1) := by decide +kernel
theorem dX12_rootFor_21 : decode prog_14_method_98_code 21 = .ok (.iload_n 2, 1) := by decide +kernel
theorem dX12_rootFor_22 : decode prog_14_method_98_code 22 = .ok (.iload_n 3, 1) := by decide +kernel
theorem dX12_rootFor_23 : decode prog_14_method_98_code 23 = .ok (.iload_n 1, 1) := by decide +kernel
theorem dX12_rootFor_24 : decode prog_14_method_98_code 24 = .ok (.invokevirtual 568, 3) := by decide +kernel
theorem dX12_rootFor_27 : decode prog_14_method_98_code 27 = .ok (.ifCond .eq 5, 3) := by decide +kernel
theorem dX12_rootFor_30 : decode prog_14_method_98_code 30 = .ok (.iload_n 2, 1) := by decide +kernel
theorem dX12_rootFor_31 : decode prog_14_method_98_code 31 = .ok (.ireturn, 1) := by decide +kernel
theorem dX12_rootFor_32 : decode prog_14_method_98_code 32 = .ok (.iinc 3 1, 3) := by decide +kernel
theorem dX12_rootFor_35 : decode prog_14_method_98_code 35 = .ok (.goto (-23), 3) := by decide +kernel
theorem dX12_rootFor_38 : decode prog_14_method_98_code 38 = .ok (.iinc 2 1, 3) := by decide +kernel
theorem dX12_rootFor_41 : decode prog_14_method_98_code 41 = .ok (.goto (-39), 3) := by decide +kernel
theorem dX12_rootFor_44 : decode prog_14_method_98_code 44 = .ok (.iconst (-1), 1) := by decide +kernel
theorem dX12_rootFor_45 : decode prog_14_method_98_code 45 = .ok (.ireturn, 1) := by decide +kernel
abbrev A_X12_rootFor_2 (l : Launch) (E : bE) (Q : Int → Prop) (v1 : Int) (M : bM) : (Int) → Prop := (fun t : Int => V l E xX12_rootFor (0, 0) 2 [(0, bR 11), (1, bI v1), (2, bI t)] [] M (b_pIp M Q))
abbrev X_X12_rootFor_2 (l : Launch) (E : bE) (Q : Int → Prop) (v1 : Int) (M : bM) : ((Unit) ⊕ Int) → Prop := (Sum.elim (fun t : Unit => V l E xX12_rootFor (0, 0) 44 [] [] M (b_pIp M Q)) Q)
abbrev A_X12_rootFor_12 (l : Launch) (E : bE) (Q : Int → Prop) (v1 : Int) (v2 : Int) (M : bM) : (Int) → Prop := (fun t : Int => V l E xX12_rootFor (0, 0) 12 [(0, bR 11), (1, bI v1), (2, bI v2), (3, bI t)] [] M (b_pIp M Q))
abbrev X_X12_rootFor_12 (l : Launch) (E : bE) (Q : Int → Prop) (v1 : Int) (v2 : Int) (M : bM) : ((Unit) ⊕ ((Int) ⊕ ((Unit) ⊕ Int))) → Prop := (Sum.elim (fun t : Unit => V l E xX12_rootFor (0, 0) 38 [(0, bR 11), (1, bI v1), (2, bI v2)] [] M (b_pIp M Q)) (Sum.elim (A_X12_rootFor_2 l E Q v1 M) (X_X12_rootFor_2 l E Q v1 M)))
noncomputable def F_X12_rootFor_s12 (v1 : Int) (v2 : Int) (v3 : Int) (M : bM) : Option ((Int) ⊕ ((Unit) ⊕ ((Int) ⊕ ((Unit) ⊕ Int)))) :=
  if (M 11 52) ≤ v3 then (some (.inr (.inl ()))) else (b_bind (F_X12_canBegin v2 v3 v1 M) (fun x3 => if x3 = 0 then (b_g (b_i32 (v3 + 1)) (some (.inl ((v3 + 1))))) else (some (.inr (.inr (.inr (.inr v2)))))))
theorem t_X12_rootFor_s12 {l : Launch} {E : bE} {Q : Int → Prop} {v1 : Int} {v2 : Int} {v3 : Int} {M : bM} (h : b_wp (F_X12_rootFor_s12 v1 v2 v3 M) (Sum.elim (A_X12_rootFor_12 l E Q v1 v2 M) (X_X12_rootFor_12 l E Q v1 v2 M))) : V l E xX12_rootFor (0, 0) 12 [(0, bR 11), (1, bI v1), (2, bI v2), (3, bI v3)] [] M (b_pIp M Q) := by
  unfold F_X12_rootFor_s12 at h
  refine v_iload_n (f := 3) 3 rfl dX12_rootFor_12 ?_
  refine v_aload_n (f := 0) 0 rfl dX12_rootFor_13 ?_
  refine v_getI (kf := 52) (kz := 52) rfl kd_11 rfl ⟨by decide, by decide⟩ rfl wf_12_496 dX12_rootFor_14 ?_
  refine v_icmp_ge (tgt := 38) dX12_rootFor_17 (by decide) (fun c2 => ?_) (fun c2 => ?_)
  · replace h := b_wp_t c2 h
    refine v_sub (ls2 := [(0, bR _), (1, bI _), (2, bI _)]) [0, 1, 2] rfl ?_
    exact h
  · replace h := b_wp_f c2 h
    refine v_aload_n (f := 0) 0 rfl dX12_rootFor_20 ?_
    refine v_iload_n (f := 2) 2 rfl dX12_rootFor_21 ?_
    refine v_iload_n (f := 3) 3 rfl dX12_rootFor_22 ?_
    refine v_iload_n (f := 1) 1 rfl dX12_rootFor_23 ?_
    refine v_cVIp (nA := 3) (As := [bI _, bI _, bI _]) (ix := 568) (cf_X12_canBegin (b_wp_b h)) rfl kd_11 rfl rfl wc_X12_canBegin wm_12_568 wi_X12_canBegin ws_X12_canBegin wn_12 ⟨by decide, by decide, by decide⟩ rfl ⟨by decide, by decide⟩ ⟨by decide, by decide⟩ (Nat.le_of_ble_eq_true rfl) dX12_rootFor_24 (fun x3 h => ?_)
    refine v_if_eq (tgt := 32) dX12_rootFor_27 (by decide) (fun c4 => ?_) (fun c4 => ?_)
    · replace h := b_wp_t c4 h
      obtain ⟨g5, h⟩ := b_wp_g h
      refine v_iincN (ls' := [(3, bI _), (0, bR _), (1, bI _), (2, bI _)]) 3 rfl (by decide) g5 dX12_rootFor_32 rfl ?_
      refine v_goto (tgt := 12) dX12_rootFor_35 (by decide) ?_
      refine v_sub (ls2 := [(0, bR _), (1, bI _), (2, bI _), (3, bI _)]) [1, 2, 3, 0] rfl ?_
      exact h
    · replace h := b_wp_f c4 h
      refine v_iload_n (f := 2) 2 rfl dX12_rootFor_30 ?_
      refine v_ireturn rfl dX12_rootFor_31 ⟨by decide, by decide⟩ ?_
      exact ⟨_, rfl, rfl, h⟩
theorem l_X12_rootFor_12 {l : Launch} {E : bE} {Q : Int → Prop} {v1 : Int} {v2 : Int} {M : bM} {s : Int} (h : b_wp (b_loop (fun t => F_X12_rootFor_s12 v1 v2 t M) s) (X_X12_rootFor_12 l E Q v1 v2 M)) : A_X12_rootFor_12 l E Q v1 v2 M s := b_loop_wp (fun t h => t_X12_rootFor_s12 h) s h
noncomputable def F_X12_rootFor_b38 (v1 : Int) (v2 : Int) (M : bM) : Option ((Int) ⊕ ((Unit) ⊕ Int)) :=
  b_g (b_i32 (v2 + 1)) (some (.inl ((v2 + 1))))
theorem t_X12_rootFor_b38 {l : Launch} {E : bE} {Q : Int → Prop} {v1 : Int} {v2 : Int} {M : bM} (h : b_wp (F_X12_rootFor_b38 v1 v2 M) (Sum.elim (A_X12_rootFor_2 l E Q v1 M) (X_X12_rootFor_2 l E Q v1 M))) : V l E xX12_rootFor (0, 0) 38 [(0, bR 11), (1, bI v1), (2, bI v2)] [] M (b_pIp M Q) := by
  unfold F_X12_rootFor_b38 at h
  obtain ⟨g6, h⟩ := b_wp_g h
  refine v_iincN (ls' := [(2, bI _), (0, bR _), (1, bI _)]) 2 rfl (by decide) g6 dX12_rootFor_38 rfl ?_
  refine v_goto (tgt := 2) dX12_rootFor_41 (by decide) ?_
  refine v_sub (ls2 := [(0, bR _), (1, bI _), (2, bI _)]) [1, 2, 0] rfl ?_
  exact h
noncomputable def F_X12_rootFor_s2 (v1 : Int) (v2 : Int) (M : bM) : Option ((Int) ⊕ ((Unit) ⊕ Int)) :=
  if (M 11 20) ≤ v2 then (some (.inr (.inl ()))) else (b_bind (b_loop (fun t => F_X12_rootFor_s12 v1 v2 t M) (0)) (Sum.elim (fun t => F_X12_rootFor_b38 v1 v2 M) some))
theorem t_X12_rootFor_s2 {l : Launch} {E : bE} {Q : Int → Prop} {v1 : Int} {v2 : Int} {M : bM} (h : b_wp (F_X12_rootFor_s2 v1 v2 M) (Sum.elim (A_X12_rootFor_2 l E Q v1 M) (X_X12_rootFor_2 l E Q v1 M))) : V l E xX12_rootFor (0, 0) 2 [(0, bR 11), (1, bI v1), (2, bI v2)] [] M (b_pIp M Q) := by
  unfold F_X12_rootFor_s2 at h
  refine v_iload_n (f := 2) 2 rfl dX12_rootFor_2 ?_
  refine v_aload_n (f := 0) 0 rfl dX12_rootFor_3 ?_
  refine v_getI (kf := 20) (kz := 20) rfl kd_11 rfl ⟨by decide, by decide⟩ rfl wf_12_374 dX12_rootFor_4 ?_
  refine v_icmp_ge (tgt := 44) dX12_rootFor_7 (by decide) (fun c1 => ?_) (fun c1 => ?_)
  · replace h := b_wp_t c1 h
    refine v_sub (ls2 := []) [] rfl ?_
    exact h
  · replace h := b_wp_f c1 h
    refine v_iconst ⟨by decide, by decide⟩ dX12_rootFor_10 ?_
    refine v_istore_n (g := 3) (i := 3) (ls' := [(3, bI _), (0, bR _), (1, bI _), (2, bI _)]) rfl (by decide) dX12_rootFor_11 rfl ?_
    refine v_sub (ls2 := [(0, bR _), (1, bI _), (2, bI _), (3, bI _)]) [1, 2, 3, 0] rfl ?_
    refine l_X12_rootFor_12 (b_wp_m (fun t h => ?_) (b_wp_b h))
    cases t with
    | inr o => exact h
    | inl t =>
      show V l E xX12_rootFor (0, 0) 38 [(0, bR 11), (1, bI _), (2, bI _)] [] _ (b_pIp M Q)
      replace h := b_wp_inl h
      exact t_X12_rootFor_b38 h
theorem l_X12_rootFor_2 {l : Launch} {E : bE} {Q : Int → Prop} {v1 : Int} {M : bM} {s : Int} (h : b_wp (b_loop (fun t => F_X12_rootFor_s2 v1 t M) s) (X_X12_rootFor_2 l E Q v1 M)) : A_X12_rootFor_2 l E Q v1 M s := b_loop_wp (fun t h => t_X12_rootFor_s2 h) s h
noncomputable def F_X12_rootFor_b44 (M : bM) : Option (Int) :=
  some (-1)
theorem t_X12_rootFor_b44 {l : Launch} {E : bE} {Q : Int → Prop} {M : bM} (h : b_wp (F_X12_rootFor_b44 M) (Q)) : V l E xX12_rootFor (0, 0) 44 [] [] M (b_pIp M Q) := by
  unfold F_X12_rootFor_b44 at h
  refine v_iconst ⟨by decide, by decide⟩ dX12_rootFor_44 ?_
  refine v_ireturn rfl dX12_rootFor_45 ⟨by decide, by decide⟩ ?_
  exact ⟨_, rfl, rfl, h⟩
noncomputable def F_X12_rootFor (v1 : Int) (M : bM) : Option (Int) :=
  b_bind (b_loop (fun t => F_X12_rootFor_s2 v1 t M) (0)) (Sum.elim (fun t => F_X12_rootFor_b44 M) some)
theorem t_X12_rootFor {l : Launch} {E : bE} {Q : Int → Prop} {v1 : Int} {M : bM} (h : b_wp (F_X12_rootFor v1 M) (Q)) : V l E xX12_rootFor (0, 0) 0 [(0, bR 11), (1, bI v1)] [] M (b_pIp M Q) := by
  unfold F_X12_rootFor at h
  refine v_iconst ⟨by decide, by decide⟩ dX12_rootFor_0 ?_
  refine v_istore_n (g := 2) (i := 2) (ls' := [(2, bI _), (0, bR _), (1, bI _)]) rfl (by decide) dX12_rootFor_1 rfl ?_
  refine v_sub (ls2 := [(0, bR _), (1, bI _), (2, bI _)]) [1, 2, 0] rfl ?_
  refine l_X12_rootFor_2 (b_wp_m (fun t h => ?_) (b_wp_b h))
  cases t with
  | inr o => exact h
  | inl t =>
    show V l E xX12_rootFor (0, 0) 44 [] [] _ (b_pIp M Q)
    replace h := b_wp_inl h
    exact t_X12_rootFor_b44 h
theorem cf_X12_rootFor {l : Launch} {E : bE} {M : bM} {v1 : Int} {Q : Int → Prop} (h : b_wp (F_X12_rootFor v1 M) Q) : b_C l E xX12_rootFor yX12_rootFor [bR 11, bI v1] M (b_pIp M Q) := b_met (by decide) ⟨rfl, rfl⟩ (Nat.le_of_ble_eq_true rfl) (fun _ _ => t_X12_rootFor h)
