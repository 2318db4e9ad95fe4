abbrev xX12_nextOf : bX := ("BurntHallModel", prog_14_method_53_code, 7, (Option.some Jvm.ClassFile.FieldType.int), b_rm 2 0 0, 0, "nextOf")
abbrev yX12_nextOf : MethodName := ⟨"BurntHallModel", "nextOf", "(ZIII)I"⟩
theorem dX12_nextOf_0 : decode prog_14_method_53_code 0 = .ok (.ldc_w 433, 3) := by decide +kernel
theorem dX12_nextOf_3 : decode prog_14_method_53_code 3 = .ok (.istore 5, 2) := by decide +kernel
theorem dX12_nextOf_5 : decode prog_14_method_53_code 5 = .ok (.iconst 0, 1) := by decide +kernel
theorem dX12_nextOf_6 : decode prog_14_method_53_code 6 = .ok (.istore 6, 2) := by decide +kernel
theorem dX12_nextOf_8 : decode prog_14_method_53_code 8 = .ok (.iload 6, 2) := by decide +kernel
theorem dX12_nextOf_10 : decode prog_14_method_53_code 10 = .ok (.aload_n 0, 1) := by decide +kernel
theorem dX12_nextOf_11 : decode prog_14_method_53_code 11 = .ok (.getfield 55, 3) := by decide +kernel
theorem dX12_nextOf_14 : decode prog_14_method_53_code 14 = .ok (.iload_n 3, 1) := by decide +kernel
theorem dX12_nextOf_15 : decode prog_14_method_53_code 15 = .ok (.iaload, 1) := by decide +kernel
theorem dX12_nextOf_16 : decode prog_14_method_53_code 16 = .ok (.if_icmp .ge 67, 3) := by decide +kernel
theorem dX12_nextOf_19 : decode prog_14_method_53_code 19 = .ok (.iload_n 1, 1) := by decide +kernel
theorem dX12_nextOf_20 : decode prog_14_method_53_code 20 = .ok (.ifCond .eq 13, 3) := by decide +kernel
theorem dX12_nextOf_23 : decode prog_14_method_53_code 23 = .ok (.aload_n 0, 1) := by decide +kernel
theorem dX12_nextOf_24 : decode prog_14_method_53_code 24 = .ok (.getfield 70, 3) := by decide +kernel
theorem dX12_nextOf_27 : decode prog_14_method_53_code 27 = .ok (.iload 6, 2) := by decide +kernel
theorem dX12_nextOf_29 : decode prog_14_method_53_code 29 = .ok (.iaload, 1) := by decide +kernel
theorem dX12_nextOf_30 : decode prog_14_method_53_code 30 = .ok (.goto 10, 3) := by decide +kernel
theorem dX12_nextOf_33 : decode prog_14_method_53_code 33 = .ok (.aload_n 0, 1) := by decide +kernel
theorem dX12_nextOf_34 : decode prog_14_method_53_code 34 = .ok (.getfield 73, 3) := by decide +kernel
theorem dX12_nextOf_37 : decode prog_14_method_53_code 37 = .ok (.iload 6, 2) := by decide +kernel
theorem dX12_nextOf_39 : decode prog_14_method_53_code 39 = .ok (.iaload, 1) := by decide +kernel
theorem dX12_nextOf_40 : decode prog_14_method_53_code 40 = .ok (.iload_n 2, 1) := by decide +kernel
theorem dX12_nextOf_41 : decode prog_14_method_53_code 41 = .ok (.if_icmp .le 32, 3) := by decide +kernel
theorem dX12_nextOf_44 : decode prog_14_method_53_code 44 = .ok (.iload 5, 2) := by decide +kernel
theorem dX12_nextOf_46 : decode prog_14_method_53_code 46 = .ok (.iload_n 1, 1) := by decide +kernel
theorem dX12_nextOf_47 : decode prog_14_method_53_code 47 = .ok (.ifCond .eq 13, 3) := by decide +kernel
theorem dX12_nextOf_50 : decode prog_14_method_53_code 50 = .ok (.aload_n 0, 1) := by decide +kernel
theorem dX12_nextOf_51 : decode prog_14_method_53_code 51 = .ok (.getfield 70, 3) := by decide +kernel
theorem dX12_nextOf_54 : decode prog_14_method_53_code 54 = .ok (.iload 6, 2) := by decide +kernel
theorem dX12_nextOf_56 : decode prog_14_method_53_code 56 = .ok (.iaload, 1) := by decide +kernel
theorem dX12_nextOf_57 : decode prog_14_method_53_code 57 = .ok (.goto 10, 3) := by decide +kernel
theorem dX12_nextOf_60 : decode prog_14_method_53_code 60 = .ok (.aload_n 0, 1) := by decide +kernel
theorem dX12_nextOf_61 : decode prog_14_method_53_code 61 = .ok (.getfield 73, 3) := by decide +kernel
theorem dX12_nextOf_64 : decode prog_14_method_53_code 64 = .ok (.iload 6, 2) := by decide +kernel
theorem dX12_nextOf_66 : decode prog_14_method_53_code 66 = .ok (.iaload, 1) := by decide +kernel
theorem dX12_nextOf_67 : decode prog_14_method_53_code 67 = .ok (.invokestatic 414, 3) := by decide +kernel
theorem dX12_nextOf_70 : decode prog_14_method_53_code 70 = .ok (.goto 5, 3) := by decide +kernel
theorem dX12_nextOf_73 : decode prog_14_method_53_code 73 = .ok (.iload 5, 2) := by decide +kernel
theorem dX12_nextOf_75 : decode prog_14_method_53_code 75 = .ok (.istore 5, 2) := by decide +kernel
theorem dX12_nextOf_77 : decode prog_14_method_53_code 77 = .ok (.iinc 6 1, 3) := by decide +kernel
theorem dX12_nextOf_80 : decode prog_14_method_53_code 80 = .ok (.goto (-72), 3) := by decide +kernel
theorem dX12_nextOf_83 : decode prog_14_method_53_code 83 = .ok (.bipush 13, 2) := by decide +kernel
theorem dX12_nextOf_85 : decode prog_14_method_53_code 85 = .ok (.istore 6, 2) := by decide +kernel
theorem dX12_nextOf_87 : decode prog_14_method_53_code 87 = .ok (.iload 6, 2) := by decide +kernel
theorem dX12_nextOf_89 : decode prog_14_method_53_code 89 = .ok (.bipush 13, 2) := by decide +kernel
theorem dX12_nextOf_91 : decode prog_14_method_53_code 91 = .ok (.aload_n 0, 1) := by decide +kernel
theorem dX12_nextOf_92 : decode prog_14_method_53_code 92 = .ok (.getfield 55, 3) := by decide +kernel
theorem dX12_nextOf_95 : decode prog_14_method_53_code 95 = .ok (.iload 4, 2) := by decide +kernel
theorem dX12_nextOf_97 : decode prog_14_method_53_code 97 = .ok (.iaload, 1) := by decide +kernel
theorem dX12_nextOf_98 : decode prog_14_method_53_code 98 = .ok (.iadd, 1) := by decide +kernel
theorem dX12_nextOf_99 : decode prog_14_method_53_code 99 = .ok (.if_icmp .ge 67, 3) := by decide +kernel
theorem dX12_nextOf_102 : decode prog_14_method_53_code 102 = .ok (.iload_n 1, 1) := by decide +kernel
theorem dX12_nextOf_103 : decode prog_14_method_53_code 103 = .ok (.ifCond .eq 13, 3) := by decide +kernel
theorem dX12_nextOf_106 : decode prog_14_method_53_code 106 = .ok (.aload_n 0, 1) := by decide +kernel
theorem dX12_nextOf_107 : decode prog_14_method_53_code 107 = .ok (.getfield 70, 3) := by decide +kernel
theorem dX12_nextOf_110 : decode prog_14_method_53_code 110 = .ok (.iload 6, 2) := by decide +kernel
theorem dX12_nextOf_112 : decode prog_14_method_53_code 112 = .ok (.iaload, 1) := by decide +kernel
theorem dX12_nextOf_113 : decode prog_14_method_53_code 113 = .ok (.goto 10, 3) := by decide +kernel
theorem dX12_nextOf_116 : decode prog_14_method_53_code 116 = .ok (.aload_n 0, 1) := by decide +kernel
theorem dX12_nextOf_117 : decode prog_14_method_53_code 117 = .ok (.getfield 73, 3) := by decide +kernel
theorem dX12_nextOf_120 : decode prog_14_method_53_code 120 = .ok (.iload 6, 2) := by decide +kernel
theorem dX12_nextOf_122 : decode prog_14_method_53_code 122 = .ok (.iaload, 1) := by decide +kernel
theorem dX12_nextOf_123 : decode prog_14_method_53_code 123 = .ok (.iload_n 2, 1) := by decide +kernel
theorem dX12_nextOf_124 : decode prog_14_method_53_code 124 = .ok (.if_icmp .le 32, 3) := by decide +kernel
theorem dX12_nextOf_127 : decode prog_14_method_53_code 127 = .ok (.iload 5, 2) := by decide +kernel
theorem dX12_nextOf_129 : decode prog_14_method_53_code 129 = .ok (.iload_n 1, 1) := by decide +kernel
theorem dX12_nextOf_130 : decode prog_14_method_53_code 130 = .ok (.ifCond .eq 13, 3) := by decide +kernel
theorem dX12_nextOf_133 : decode prog_14_method_53_code 133 = .ok (.aload_n 0, 1) := by decide +kernel
theorem dX12_nextOf_134 : decode prog_14_method_53_code 134 = .ok (.getfield 70, 3) := by decide +kernel
theorem dX12_nextOf_137 : decode prog_14_method_53_code 137 = .ok (.iload 6, 2) := by decide +kernel
theorem dX12_nextOf_139 : decode prog_14_method_53_code 139 = .ok (.iaload, 1) := by decide +kernel
theorem dX12_nextOf_140 : decode prog_14_method_53_code 140 = .ok (.goto 10, 3) := by decide +kernel
theorem dX12_nextOf_143 : decode prog_14_method_53_code 143 = .ok (.aload_n 0, 1) := by decide +kernel
theorem dX12_nextOf_144 : decode prog_14_method_53_code 144 = .ok (.getfield 73, 3) := by decide +kernel
theorem dX12_nextOf_147 : decode prog_14_method_53_code 147 = .ok (.iload 6, 2) := by decide +kernel
theorem dX12_nextOf_149 : decode prog_14_method_53_code 149 = .ok (.iaload, 1) := by decide +kernel
theorem dX12_nextOf_150 : decode prog_14_method_53_code 150 = .ok (.invokestatic 414, 3) := by decide +kernel
theorem dX12_nextOf_153 : decode prog_14_method_53_code 153 = .ok (.goto 5, 3) := by decide +kernel
theorem dX12_nextOf_156 : decode prog_14_method_53_code 156 = .ok (.iload 5, 2) := by decide +kernel
theorem dX12_nextOf_158 : decode prog_14_method_53_code 158 = .ok (.istore 5, 2) := by decide +kernel
theorem dX12_nextOf_160 : decode prog_14_method_53_code 160 = .ok (.iinc 6 1, 3) := by decide +kernel
theorem dX12_nextOf_163 : decode prog_14_method_53_code 163 = .ok (.goto (-76), 3) := by decide +kernel
theorem dX12_nextOf_166 : decode prog_14_method_53_code 166 = .ok (.iload 5, 2) := by decide +kernel
theorem dX12_nextOf_168 : decode prog_14_method_53_code 168 = .ok (.ireturn, 1) := by decide +kernel
abbrev A_X12_nextOf_8 (l : Launch) (E : bE) (Q : Int → Prop) (v1 : Int) (v2 : Int) (v3 : Int) (v4 : Int) (M : bM) : (Int × Int) → Prop := (fun t : Int × Int => V l E xX12_nextOf (0, 0) 8 [(0, bR 11), (1, bI v1), (2, bI v2), (3, bI v3), (4, bI v4), (5, bI (t.1)), (6, bI (t.2))] [] M (b_pIp M Q))
abbrev X_X12_nextOf_8 (l : Launch) (E : bE) (Q : Int → Prop) (v1 : Int) (v2 : Int) (v3 : Int) (v4 : Int) (M : bM) : (Int) → Prop := (fun t : Int => V l E xX12_nextOf (0, 0) 83 [(0, bR 11), (1, bI v1), (2, bI v2), (4, bI v4), (5, bI t)] [] M (b_pIp M Q))
noncomputable def F_X12_nextOf_b67 (v1 : Int) (v2 : Int) (v3 : Int) (v4 : Int) (v6 : Int) (u0 : Int) (u1 : Int) (M : bM) : Option ((Int × Int) ⊕ (Int)) :=
  b_bind (F_X12_lesser u0 u1 M) (fun x9 => b_g (b_i32 (v6 + 1)) (some (.inl (x9, (v6 + 1)))))
theorem t_X12_nextOf_b67 {l : Launch} {E : bE} {Q : Int → Prop} {v1 : Int} {v2 : Int} {v3 : Int} {v4 : Int} {v6 : Int} {u0 : Int} {u1 : Int} {M : bM} (h : b_wp (F_X12_nextOf_b67 v1 v2 v3 v4 v6 u0 u1 M) (Sum.elim (A_X12_nextOf_8 l E Q v1 v2 v3 v4 M) (X_X12_nextOf_8 l E Q v1 v2 v3 v4 M))) : V l E xX12_nextOf (0, 0) 67 [(0, bR 11), (1, bI v1), (2, bI v2), (3, bI v3), (4, bI v4), (6, bI v6)] [bI u1, bI u0] M (b_pIp M Q) := by
  unfold F_X12_nextOf_b67 at h
  refine v_cSIp (nA := 2) (As := [bI _, bI _]) (ix := 414) (c_X12_lesser (b_wp_b h)) rfl wc_X12_lesser wm_12_414 wi_X12_lesser wn_12 ⟨by decide, by decide, by decide⟩ rfl ⟨by decide, by decide⟩ ⟨by decide, by decide⟩ (Nat.le_of_ble_eq_true rfl) dX12_nextOf_67 (fun x9 h => ?_)
  obtain ⟨g10, h⟩ := b_wp_g h
  refine v_goto (tgt := 75) dX12_nextOf_70 (by decide) ?_
  refine v_istore (i := 5) (ls' := [(5, bI _), (0, bR _), (1, bI _), (2, bI _), (3, bI _), (4, bI _), (6, bI _)]) (by decide) dX12_nextOf_75 rfl ?_
  refine v_iincN (ls' := [(6, bI _), (5, bI _), (0, bR _), (1, bI _), (2, bI _), (3, bI _), (4, bI _)]) 6 rfl (by decide) g10 dX12_nextOf_77 rfl ?_
  refine v_goto (tgt := 8) dX12_nextOf_80 (by decide) ?_
  refine v_sub (ls2 := [(0, bR _), (1, bI _), (2, bI _), (3, bI _), (4, bI _), (5, bI _), (6, bI _)]) [2, 3, 4, 5, 6, 1, 0] rfl ?_
  exact h
noncomputable def F_X12_nextOf_b40 (v1 : Int) (v2 : Int) (v3 : Int) (v4 : Int) (v5 : Int) (v6 : Int) (u0 : Int) (M : bM) : Option ((Int × Int) ⊕ (Int)) :=
  if u0 ≤ v2 then (b_g (b_i32 (v6 + 1)) (some (.inl (v5, (v6 + 1))))) else (if v1 = 0 then (b_g (0 ≤ v6 ∧ v6 < 26) (F_X12_nextOf_b67 v1 v2 v3 v4 v6 v5 (M 181 v6) M)) else (b_g (0 ≤ v6 ∧ v6 < 26) (F_X12_nextOf_b67 v1 v2 v3 v4 v6 v5 (M 180 v6) M)))
theorem t_X12_nextOf_b40 {l : Launch} {E : bE} {Q : Int → Prop} {v1 : Int} {v2 : Int} {v3 : Int} {v4 : Int} {v5 : Int} {v6 : Int} {u0 : Int} {M : bM} (h : b_wp (F_X12_nextOf_b40 v1 v2 v3 v4 v5 v6 u0 M) (Sum.elim (A_X12_nextOf_8 l E Q v1 v2 v3 v4 M) (X_X12_nextOf_8 l E Q v1 v2 v3 v4 M))) : V l E xX12_nextOf (0, 0) 40 [(0, bR 11), (1, bI v1), (2, bI v2), (3, bI v3), (4, bI v4), (5, bI v5), (6, bI v6)] [bI u0] M (b_pIp M Q) := by
  unfold F_X12_nextOf_b40 at h
  refine v_iload_n (f := 2) 2 rfl dX12_nextOf_40 ?_
  refine v_icmp_le (tgt := 73) dX12_nextOf_41 (by decide) (fun c5 => ?_) (fun c5 => ?_)
  · replace h := b_wp_t c5 h
    obtain ⟨g6, h⟩ := b_wp_g h
    refine v_iload (i := 5) 5 rfl dX12_nextOf_73 ?_
    refine v_istore (i := 5) (ls' := [(5, bI _), (0, bR _), (1, bI _), (2, bI _), (3, bI _), (4, bI _), (6, bI _)]) (by decide) dX12_nextOf_75 rfl ?_
    refine v_iincN (ls' := [(6, bI _), (5, bI _), (0, bR _), (1, bI _), (2, bI _), (3, bI _), (4, bI _)]) 6 rfl (by decide) g6 dX12_nextOf_77 rfl ?_
    refine v_goto (tgt := 8) dX12_nextOf_80 (by decide) ?_
    refine v_sub (ls2 := [(0, bR _), (1, bI _), (2, bI _), (3, bI _), (4, bI _), (5, bI _), (6, bI _)]) [2, 3, 4, 5, 6, 1, 0] rfl ?_
    exact h
  · replace h := b_wp_f c5 h
    refine v_iload (i := 5) 5 rfl dX12_nextOf_44 ?_
    refine v_iload_n (f := 1) 1 rfl dX12_nextOf_46 ?_
    refine v_if_eq (tgt := 60) dX12_nextOf_47 (by decide) (fun c7 => ?_) (fun c7 => ?_)
    · replace h := b_wp_t c7 h
      obtain ⟨g8, h⟩ := b_wp_g h
      refine v_aload_n (f := 0) 0 rfl dX12_nextOf_60 ?_
      refine v_getR (kf := 34) (kz := 34) rfl kd_11 rfl ⟨by decide, by decide⟩ rfl wf_12_73 dX12_nextOf_61 ?_
      refine v_iload (i := 6) 6 rfl dX12_nextOf_64 ?_
      refine v_iaload kd_181 g8 (by decide) dX12_nextOf_66 ?_
      refine v_sub (ls2 := [(0, bR _), (1, bI _), (2, bI _), (3, bI _), (4, bI _), (6, bI _)]) [0, 1, 2, 3, 4, 6] rfl ?_
      exact t_X12_nextOf_b67 h
    · replace h := b_wp_f c7 h
      obtain ⟨g11, h⟩ := b_wp_g h
      refine v_aload_n (f := 0) 0 rfl dX12_nextOf_50 ?_
      refine v_getR (kf := 33) (kz := 33) rfl kd_11 rfl ⟨by decide, by decide⟩ rfl wf_12_70 dX12_nextOf_51 ?_
      refine v_iload (i := 6) 6 rfl dX12_nextOf_54 ?_
      refine v_iaload kd_180 g11 (by decide) dX12_nextOf_56 ?_
      refine v_goto (tgt := 67) dX12_nextOf_57 (by decide) ?_
      refine v_sub (ls2 := [(0, bR _), (1, bI _), (2, bI _), (3, bI _), (4, bI _), (6, bI _)]) [0, 1, 2, 3, 4, 6] rfl ?_
      exact t_X12_nextOf_b67 h
noncomputable def F_X12_nextOf_s8 (v1 : Int) (v2 : Int) (v3 : Int) (v4 : Int) (v5 : Int) (v6 : Int) (M : bM) : Option ((Int × Int) ⊕ (Int)) :=
  b_g (0 ≤ v3 ∧ v3 < 60) (if (M 175 v3) ≤ v6 then (some (.inr (v5))) else (if v1 = 0 then (b_g (0 ≤ v6 ∧ v6 < 26) (F_X12_nextOf_b40 v1 v2 v3 v4 v5 v6 (M 181 v6) M)) else (b_g (0 ≤ v6 ∧ v6 < 26) (F_X12_nextOf_b40 v1 v2 v3 v4 v5 v6 (M 180 v6) M))))
theorem t_X12_nextOf_s8 {l : Launch} {E : bE} {Q : Int → Prop} {v1 : Int} {v2 : Int} {v3 : Int} {v4 : Int} {v5 : Int} {v6 : Int} {M : bM} (h : b_wp (F_X12_nextOf_s8 v1 v2 v3 v4 v5 v6 M) (Sum.elim (A_X12_nextOf_8 l E Q v1 v2 v3 v4 M) (X_X12_nextOf_8 l E Q v1 v2 v3 v4 M))) : V l E xX12_nextOf (0, 0) 8 [(0, bR 11), (1, bI v1), (2, bI v2), (3, bI v3), (4, bI v4), (5, bI v5), (6, bI v6)] [] M (b_pIp M Q) := by
  unfold F_X12_nextOf_s8 at h
  obtain ⟨g1, h⟩ := b_wp_g h
  refine v_iload (i := 6) 6 rfl dX12_nextOf_8 ?_
  refine v_aload_n (f := 0) 0 rfl dX12_nextOf_10 ?_
  refine v_getR (kf := 27) (kz := 27) rfl kd_11 rfl ⟨by decide, by decide⟩ rfl wf_12_55 dX12_nextOf_11 ?_
  refine v_iload_n (f := 3) 3 rfl dX12_nextOf_14 ?_
  refine v_iaload kd_175 g1 (by decide) dX12_nextOf_15 ?_
  refine v_icmp_ge (tgt := 83) dX12_nextOf_16 (by decide) (fun c2 => ?_) (fun c2 => ?_)
  · replace h := b_wp_t c2 h
    refine v_sub (ls2 := [(0, bR _), (1, bI _), (2, bI _), (4, bI _), (5, bI _)]) [0, 1, 2, 4, 5] rfl ?_
    exact h
  · replace h := b_wp_f c2 h
    refine v_iload_n (f := 1) 1 rfl dX12_nextOf_19 ?_
    refine v_if_eq (tgt := 33) dX12_nextOf_20 (by decide) (fun c3 => ?_) (fun c3 => ?_)
    · replace h := b_wp_t c3 h
      obtain ⟨g4, h⟩ := b_wp_g h
      refine v_aload_n (f := 0) 0 rfl dX12_nextOf_33 ?_
      refine v_getR (kf := 34) (kz := 34) rfl kd_11 rfl ⟨by decide, by decide⟩ rfl wf_12_73 dX12_nextOf_34 ?_
      refine v_iload (i := 6) 6 rfl dX12_nextOf_37 ?_
      refine v_iaload kd_181 g4 (by decide) dX12_nextOf_39 ?_
      exact t_X12_nextOf_b40 h
    · replace h := b_wp_f c3 h
      obtain ⟨g12, h⟩ := b_wp_g h
      refine v_aload_n (f := 0) 0 rfl dX12_nextOf_23 ?_
      refine v_getR (kf := 33) (kz := 33) rfl kd_11 rfl ⟨by decide, by decide⟩ rfl wf_12_70 dX12_nextOf_24 ?_
      refine v_iload (i := 6) 6 rfl dX12_nextOf_27 ?_
      refine v_iaload kd_180 g12 (by decide) dX12_nextOf_29 ?_
      refine v_goto (tgt := 40) dX12_nextOf_30 (by decide) ?_
      exact t_X12_nextOf_b40 h
theorem l_X12_nextOf_8 {l : Launch} {E : bE} {Q : Int → Prop} {v1 : Int} {v2 : Int} {v3 : Int} {v4 : Int} {M : bM} {s : Int × Int} (h : b_wp (b_loop (fun t => F_X12_nextOf_s8 v1 v2 v3 v4 t.1 t.2 M) s) (X_X12_nextOf_8 l E Q v1 v2 v3 v4 M)) : A_X12_nextOf_8 l E Q v1 v2 v3 v4 M s := b_loop_wp (fun t h => t_X12_nextOf_s8 h) s h
abbrev A_X12_nextOf_87 (l : Launch) (E : bE) (Q : Int → Prop) (v1 : Int) (v2 : Int) (v4 : Int) (M : bM) : (Int × Int) → Prop := (fun t : Int × Int => V l E xX12_nextOf (0, 0) 87 [(0, bR 11), (1, bI v1), (2, bI v2), (4, bI v4), (5, bI (t.1)), (6, bI (t.2))] [] M (b_pIp M Q))
abbrev X_X12_nextOf_87 (l : Launch) (E : bE) (Q : Int → Prop) (v1 : Int) (v2 : Int) (v4 : Int) (M : bM) : (Int) → Prop := (fun t : Int => V l E xX12_nextOf (0, 0) 166 [(5, bI t)] [] M (b_pIp M Q))
noncomputable def F_X12_nextOf_b150 (v1 : Int) (v2 : Int) (v4 : Int) (v6 : Int) (u0 : Int) (u1 : Int) (M : bM) : Option ((Int × Int) ⊕ (Int)) :=
  b_bind (F_X12_lesser u0 u1 M) (fun x22 => b_g (b_i32 (v6 + 1)) (some (.inl (x22, (v6 + 1)))))
theorem t_X12_nextOf_b150 {l : Launch} {E : bE} {Q : Int → Prop} {v1 : Int} {v2 : Int} {v4 : Int} {v6 : Int} {u0 : Int} {u1 : Int} {M : bM} (h : b_wp (F_X12_nextOf_b150 v1 v2 v4 v6 u0 u1 M) (Sum.elim (A_X12_nextOf_87 l E Q v1 v2 v4 M) (X_X12_nextOf_87 l E Q v1 v2 v4 M))) : V l E xX12_nextOf (0, 0) 150 [(0, bR 11), (1, bI v1), (2, bI v2), (4, bI v4), (6, bI v6)] [bI u1, bI u0] M (b_pIp M Q) := by
  unfold F_X12_nextOf_b150 at h
  refine v_cSIp (nA := 2) (As := [bI _, bI _]) (ix := 414) (c_X12_lesser (b_wp_b h)) rfl wc_X12_lesser wm_12_414 wi_X12_lesser wn_12 ⟨by decide, by decide, by decide⟩ rfl ⟨by decide, by decide⟩ ⟨by decide, by decide⟩ (Nat.le_of_ble_eq_true rfl) dX12_nextOf_150 (fun x22 h => ?_)
  obtain ⟨g23, h⟩ := b_wp_g h
  refine v_goto (tgt := 158) dX12_nextOf_153 (by decide) ?_
  refine v_istore (i := 5) (ls' := [(5, bI _), (0, bR _), (1, bI _), (2, bI _), (4, bI _), (6, bI _)]) (by decide) dX12_nextOf_158 rfl ?_
  refine v_iincN (ls' := [(6, bI _), (5, bI _), (0, bR _), (1, bI _), (2, bI _), (4, bI _)]) 5 rfl (by decide) g23 dX12_nextOf_160 rfl ?_
  refine v_goto (tgt := 87) dX12_nextOf_163 (by decide) ?_
  refine v_sub (ls2 := [(0, bR _), (1, bI _), (2, bI _), (4, bI _), (5, bI _), (6, bI _)]) [2, 3, 4, 5, 1, 0] rfl ?_
  exact h
noncomputable def F_X12_nextOf_b123 (v1 : Int) (v2 : Int) (v4 : Int) (v5 : Int) (v6 : Int) (u0 : Int) (M : bM) : Option ((Int × Int) ⊕ (Int)) :=
  if u0 ≤ v2 then (b_g (b_i32 (v6 + 1)) (some (.inl (v5, (v6 + 1))))) else (if v1 = 0 then (b_g (0 ≤ v6 ∧ v6 < 26) (F_X12_nextOf_b150 v1 v2 v4 v6 v5 (M 181 v6) M)) else (b_g (0 ≤ v6 ∧ v6 < 26) (F_X12_nextOf_b150 v1 v2 v4 v6 v5 (M 180 v6) M)))
theorem t_X12_nextOf_b123 {l : Launch} {E : bE} {Q : Int → Prop} {v1 : Int} {v2 : Int} {v4 : Int} {v5 : Int} {v6 : Int} {u0 : Int} {M : bM} (h : b_wp (F_X12_nextOf_b123 v1 v2 v4 v5 v6 u0 M) (Sum.elim (A_X12_nextOf_87 l E Q v1 v2 v4 M) (X_X12_nextOf_87 l E Q v1 v2 v4 M))) : V l E xX12_nextOf (0, 0) 123 [(0, bR 11), (1, bI v1), (2, bI v2), (4, bI v4), (5, bI v5), (6, bI v6)] [bI u0] M (b_pIp M Q) := by
  unfold F_X12_nextOf_b123 at h
  refine v_iload_n (f := 2) 2 rfl dX12_nextOf_123 ?_
  refine v_icmp_le (tgt := 156) dX12_nextOf_124 (by decide) (fun c18 => ?_) (fun c18 => ?_)
  · replace h := b_wp_t c18 h
    obtain ⟨g19, h⟩ := b_wp_g h
    refine v_iload (i := 5) 4 rfl dX12_nextOf_156 ?_
    refine v_istore (i := 5) (ls' := [(5, bI _), (0, bR _), (1, bI _), (2, bI _), (4, bI _), (6, bI _)]) (by decide) dX12_nextOf_158 rfl ?_
    refine v_iincN (ls' := [(6, bI _), (5, bI _), (0, bR _), (1, bI _), (2, bI _), (4, bI _)]) 5 rfl (by decide) g19 dX12_nextOf_160 rfl ?_
    refine v_goto (tgt := 87) dX12_nextOf_163 (by decide) ?_
    refine v_sub (ls2 := [(0, bR _), (1, bI _), (2, bI _), (4, bI _), (5, bI _), (6, bI _)]) [2, 3, 4, 5, 1, 0] rfl ?_
    exact h
  · replace h := b_wp_f c18 h
    refine v_iload (i := 5) 4 rfl dX12_nextOf_127 ?_
    refine v_iload_n (f := 1) 1 rfl dX12_nextOf_129 ?_
    refine v_if_eq (tgt := 143) dX12_nextOf_130 (by decide) (fun c20 => ?_) (fun c20 => ?_)
    · replace h := b_wp_t c20 h
      obtain ⟨g21, h⟩ := b_wp_g h
      refine v_aload_n (f := 0) 0 rfl dX12_nextOf_143 ?_
      refine v_getR (kf := 34) (kz := 34) rfl kd_11 rfl ⟨by decide, by decide⟩ rfl wf_12_73 dX12_nextOf_144 ?_
      refine v_iload (i := 6) 5 rfl dX12_nextOf_147 ?_
      refine v_iaload kd_181 g21 (by decide) dX12_nextOf_149 ?_
      refine v_sub (ls2 := [(0, bR _), (1, bI _), (2, bI _), (4, bI _), (6, bI _)]) [0, 1, 2, 3, 5] rfl ?_
      exact t_X12_nextOf_b150 h
    · replace h := b_wp_f c20 h
      obtain ⟨g24, h⟩ := b_wp_g h
      refine v_aload_n (f := 0) 0 rfl dX12_nextOf_133 ?_
      refine v_getR (kf := 33) (kz := 33) rfl kd_11 rfl ⟨by decide, by decide⟩ rfl wf_12_70 dX12_nextOf_134 ?_
      refine v_iload (i := 6) 5 rfl dX12_nextOf_137 ?_
      refine v_iaload kd_180 g24 (by decide) dX12_nextOf_139 ?_
      refine v_goto (tgt := 150) dX12_nextOf_140 (by decide) ?_
      refine v_sub (ls2 := [(0, bR _), (1, bI _), (2, bI _), (4, bI _), (6, bI _)]) [0, 1, 2, 3, 5] rfl ?_
      exact t_X12_nextOf_b150 h
noncomputable def F_X12_nextOf_s87 (v1 : Int) (v2 : Int) (v4 : Int) (v5 : Int) (v6 : Int) (M : bM) : Option ((Int × Int) ⊕ (Int)) :=
  b_g ((0 ≤ v4 ∧ v4 < 60) ∧ b_i32 (13 + (M 175 v4))) (if (13 + (M 175 v4)) ≤ v6 then (some (.inr (v5))) else (if v1 = 0 then (b_g (0 ≤ v6 ∧ v6 < 26) (F_X12_nextOf_b123 v1 v2 v4 v5 v6 (M 181 v6) M)) else (b_g (0 ≤ v6 ∧ v6 < 26) (F_X12_nextOf_b123 v1 v2 v4 v5 v6 (M 180 v6) M))))
theorem t_X12_nextOf_s87 {l : Launch} {E : bE} {Q : Int → Prop} {v1 : Int} {v2 : Int} {v4 : Int} {v5 : Int} {v6 : Int} {M : bM} (h : b_wp (F_X12_nextOf_s87 v1 v2 v4 v5 v6 M) (Sum.elim (A_X12_nextOf_87 l E Q v1 v2 v4 M) (X_X12_nextOf_87 l E Q v1 v2 v4 M))) : V l E xX12_nextOf (0, 0) 87 [(0, bR 11), (1, bI v1), (2, bI v2), (4, bI v4), (5, bI v5), (6, bI v6)] [] M (b_pIp M Q) := by
  unfold F_X12_nextOf_s87 at h
  obtain ⟨⟨g13, g14⟩, h⟩ := b_wp_g h
  refine v_iload (i := 6) 5 rfl dX12_nextOf_87 ?_
  refine v_bipush ⟨by decide, by decide⟩ (by decide) dX12_nextOf_89 ?_
  refine v_aload_n (f := 0) 0 rfl dX12_nextOf_91 ?_
  refine v_getR (kf := 27) (kz := 27) rfl kd_11 rfl ⟨by decide, by decide⟩ rfl wf_12_55 dX12_nextOf_92 ?_
  refine v_iload (i := 4) 3 rfl dX12_nextOf_95 ?_
  refine v_iaload kd_175 g13 (by decide) dX12_nextOf_97 ?_
  refine v_iaddN g14 dX12_nextOf_98 ?_
  refine v_icmp_ge (tgt := 166) dX12_nextOf_99 (by decide) (fun c15 => ?_) (fun c15 => ?_)
  · replace h := b_wp_t c15 h
    refine v_sub (ls2 := [(5, bI _)]) [4] rfl ?_
    exact h
  · replace h := b_wp_f c15 h
    refine v_iload_n (f := 1) 1 rfl dX12_nextOf_102 ?_
    refine v_if_eq (tgt := 116) dX12_nextOf_103 (by decide) (fun c16 => ?_) (fun c16 => ?_)
    · replace h := b_wp_t c16 h
      obtain ⟨g17, h⟩ := b_wp_g h
      refine v_aload_n (f := 0) 0 rfl dX12_nextOf_116 ?_
      refine v_getR (kf := 34) (kz := 34) rfl kd_11 rfl ⟨by decide, by decide⟩ rfl wf_12_73 dX12_nextOf_117 ?_
      refine v_iload (i := 6) 5 rfl dX12_nextOf_120 ?_
      refine v_iaload kd_181 g17 (by decide) dX12_nextOf_122 ?_
      exact t_X12_nextOf_b123 h
    · replace h := b_wp_f c16 h
      obtain ⟨g25, h⟩ := b_wp_g h
      refine v_aload_n (f := 0) 0 rfl dX12_nextOf_106 ?_
      refine v_getR (kf := 33) (kz := 33) rfl kd_11 rfl ⟨by decide, by decide⟩ rfl wf_12_70 dX12_nextOf_107 ?_
      refine v_iload (i := 6) 5 rfl dX12_nextOf_110 ?_
      refine v_iaload kd_180 g25 (by decide) dX12_nextOf_112 ?_
      refine v_goto (tgt := 123) dX12_nextOf_113 (by decide) ?_
      exact t_X12_nextOf_b123 h
theorem l_X12_nextOf_87 {l : Launch} {E : bE} {Q : Int → Prop} {v1 : Int} {v2 : Int} {v4 : Int} {M : bM} {s : Int × Int} (h : b_wp (b_loop (fun t => F_X12_nextOf_s87 v1 v2 v4 t.1 t.2 M) s) (X_X12_nextOf_87 l E Q v1 v2 v4 M)) : A_X12_nextOf_87 l E Q v1 v2 v4 M s := b_loop_wp (fun t h => t_X12_nextOf_s87 h) s h
noncomputable def F_X12_nextOf_b166 (v5 : Int) (M : bM) : Option (Int) :=
  some v5
theorem t_X12_nextOf_b166 {l : Launch} {E : bE} {Q : Int → Prop} {v5 : Int} {M : bM} (h : b_wp (F_X12_nextOf_b166 v5 M) (Q)) : V l E xX12_nextOf (0, 0) 166 [(5, bI v5)] [] M (b_pIp M Q) := by
  unfold F_X12_nextOf_b166 at h
  refine v_iload (i := 5) 0 rfl dX12_nextOf_166 ?_
  refine v_ireturn rfl dX12_nextOf_168 ⟨by decide, by decide⟩ ?_
  exact ⟨_, rfl, rfl, h⟩
noncomputable def F_X12_nextOf_b83 (v1 : Int) (v2 : Int) (v4 : Int) (v5 : Int) (M : bM) : Option (Int) :=
  b_bind (b_loop (fun t => F_X12_nextOf_s87 v1 v2 v4 t.1 t.2 M) (v5, 13)) (fun t => F_X12_nextOf_b166 t M)
theorem t_X12_nextOf_b83 {l : Launch} {E : bE} {Q : Int → Prop} {v1 : Int} {v2 : Int} {v4 : Int} {v5 : Int} {M : bM} (h : b_wp (F_X12_nextOf_b83 v1 v2 v4 v5 M) (Q)) : V l E xX12_nextOf (0, 0) 83 [(0, bR 11), (1, bI v1), (2, bI v2), (4, bI v4), (5, bI v5)] [] M (b_pIp M Q) := by
  unfold F_X12_nextOf_b83 at h
  refine v_bipush ⟨by decide, by decide⟩ (by decide) dX12_nextOf_83 ?_
  refine v_istore (i := 6) (ls' := [(6, bI _), (0, bR _), (1, bI _), (2, bI _), (4, bI _), (5, bI _)]) (by decide) dX12_nextOf_85 rfl ?_
  refine v_sub (ls2 := [(0, bR _), (1, bI _), (2, bI _), (4, bI _), (5, bI _), (6, bI _)]) [1, 2, 3, 4, 5, 0] rfl ?_
  refine l_X12_nextOf_87 (b_wp_m (fun t h => ?_) (b_wp_b h))
  show V l E xX12_nextOf (0, 0) 166 [(5, bI t)] [] M (b_pIp M Q)
  replace h : b_wp (F_X12_nextOf_b166 t M) _ := h
  exact t_X12_nextOf_b166 h
noncomputable def F_X12_nextOf (v1 : Int) (v2 : Int) (v3 : Int) (v4 : Int) (M : bM) : Option (Int) :=
  b_bind (b_loop (fun t => F_X12_nextOf_s8 v1 v2 v3 v4 t.1 t.2 M) (99980001, 0)) (fun t => F_X12_nextOf_b83 v1 v2 v4 t M)
theorem t_X12_nextOf {l : Launch} {E : bE} {Q : Int → Prop} {v1 : Int} {v2 : Int} {v3 : Int} {v4 : Int} {M : bM} (h : b_wp (F_X12_nextOf v1 v2 v3 v4 M) (Q)) : V l E xX12_nextOf (0, 0) 0 [(0, bR 11), (1, bI v1), (2, bI v2), (3, bI v3), (4, bI v4)] [] M (b_pIp M Q) := by
  unfold F_X12_nextOf at h
  refine v_ldcw (n := 99980001) ⟨by decide, by decide⟩ wk_12_433 dX12_nextOf_0 ?_
  refine v_istore (i := 5) (ls' := [(5, bI _), (0, bR _), (1, bI _), (2, bI _), (3, bI _), (4, bI _)]) (by decide) dX12_nextOf_3 rfl ?_
  refine v_iconst ⟨by decide, by decide⟩ dX12_nextOf_5 ?_
  refine v_istore (i := 6) (ls' := [(6, bI _), (5, bI _), (0, bR _), (1, bI _), (2, bI _), (3, bI _), (4, bI _)]) (by decide) dX12_nextOf_6 rfl ?_
  refine v_sub (ls2 := [(0, bR _), (1, bI _), (2, bI _), (3, bI _), (4, bI _), (5, bI _), (6, bI _)]) [2, 3, 4, 5, 6, 1, 0] rfl ?_
  refine l_X12_nextOf_8 (b_wp_m (fun t h => ?_) (b_wp_b h))
  show V l E xX12_nextOf (0, 0) 83 [(0, bR 11), (1, bI v1), (2, bI v2), (4, bI v4), (5, bI t)] [] M (b_pIp M Q)
  replace h : b_wp (F_X12_nextOf_b83 v1 v2 v4 t M) _ := h
  exact t_X12_nextOf_b83 h
theorem c_X12_nextOf {l : Launch} {E : bE} {M : bM} {v1 : Int} {v2 : Int} {v3 : Int} {v4 : Int} {Q : Int → Prop} (h : b_wp (F_X12_nextOf v1 v2 v3 v4 M) Q) : b_C l E xX12_nextOf yX12_nextOf [bR 11, bI v1, bI v2, bI v3, bI v4] M (b_pIp M Q) := b_met (by decide) ⟨rfl, rfl⟩ (Nat.le_of_ble_eq_true rfl) (fun _ _ => t_X12_nextOf h)
abbrev xX12_strip : bX := ("BurntHallModel", prog_14_method_54_code, 8, (Option.some Jvm.ClassFile.FieldType.int), b_rm 4 0 0, 0, "strip")
abbrev yX12_strip : MethodName := ⟨"BurntHallModel", "strip", "(II)I"⟩
theorem dX12_strip_0 : decode prog_14_method_54_code 0 = .ok (.aload_n 0, 1) := by decide +kernel
theorem dX12_strip_1 : decode prog_14_method_54_code 1 = .ok (.iload_n 1, 1) := by decide +kernel
theorem dX12_strip_2 : decode prog_14_method_54_code 2 = .ok (.invokevirtual 385, 3) := by decide +kernel
theorem dX12_strip_5 : decode prog_14_method_54_code 5 = .ok (.ifCond .eq 16, 3) := by decide +kernel
theorem dX12_strip_8 : decode prog_14_method_54_code 8 = .ok (.aload_n 0, 1) := by decide +kernel
theorem dX12_strip_9 : decode prog_14_method_54_code 9 = .ok (.iload_n 2, 1) := by decide +kernel
theorem dX12_strip_10 : decode prog_14_method_54_code 10 = .ok (.invokevirtual 385, 3) := by decide +kernel
theorem dX12_strip_13 : decode prog_14_method_54_code 13 = .ok (.ifCond .eq 8, 3) := by decide +kernel
theorem dX12_strip_16 : decode prog_14_method_54_code 16 = .ok (.iload_n 1, 1) := by decide +kernel
theorem dX12_strip_17 : decode prog_14_method_54_code 17 = .ok (.iload_n 2, 1) := by decide +kernel
theorem dX12_strip_18 : decode prog_14_method_54_code 18 = .ok (.if_icmp .ne 6, 3) := by decide +kernel
theorem dX12_strip_21 : decode prog_14_method_54_code 21 = .ok (.bipush (-2), 2) := by decide +kernel
theorem dX12_strip_23 : decode prog_14_method_54_code 23 = .ok (.ireturn, 1) := by decide +kernel
theorem dX12_strip_24 : decode prog_14_method_54_code 24 = .ok (.aload_n 0, 1) := by decide +kernel
theorem dX12_strip_25 : decode prog_14_method_54_code 25 = .ok (.getfield 55, 3) := by decide +kernel
theorem dX12_strip_28 : decode prog_14_method_54_code 28 = .ok (.iload_n 1, 1) := by decide +kernel
theorem dX12_strip_29 : decode prog_14_method_54_code 29 = .ok (.iaload, 1) := by decide +kernel
theorem dX12_strip_30 : decode prog_14_method_54_code 30 = .ok (.ifCond .eq 12, 3) := by decide +kernel
theorem dX12_strip_33 : decode prog_14_method_54_code 33 = .ok (.aload_n 0, 1) := by decide +kernel
theorem dX12_strip_34 : decode prog_14_method_54_code 34 = .ok (.getfield 55, 3) := by decide +kernel
theorem dX12_strip_37 : decode prog_14_method_54_code 37 = .ok (.iload_n 2, 1) := by decide +kernel
theorem dX12_strip_38 : decode prog_14_method_54_code 38 = .ok (.iaload, 1) := by decide +kernel
theorem dX12_strip_39 : decode prog_14_method_54_code 39 = .ok (.ifCond .ne 6, 3) := by decide +kernel
theorem dX12_strip_42 : decode prog_14_method_54_code 42 = .ok (.bipush (-4), 2) := by decide +kernel
theorem dX12_strip_44 : decode prog_14_method_54_code 44 = .ok (.ireturn, 1) := by decide +kernel
theorem dX12_strip_45 : decode prog_14_method_54_code 45 = .ok (.aload_n 0, 1) := by decide +kernel
theorem dX12_strip_46 : decode prog_14_method_54_code 46 = .ok (.iload_n 1, 1) := by decide +kernel
theorem dX12_strip_47 : decode prog_14_method_54_code 47 = .ok (.iconst 0, 1) := by decide +kernel
theorem dX12_strip_48 : decode prog_14_method_54_code 48 = .ok (.invokevirtual 427, 3) := by decide +kernel
theorem dX12_strip_51 : decode prog_14_method_54_code 51 = .ok (.ifCond .eq 13, 3) := by decide +kernel
theorem dX12_strip_54 : decode prog_14_method_54_code 54 = .ok (.aload_n 0, 1) := by decide +kernel
theorem dX12_strip_55 : decode prog_14_method_54_code 55 = .ok (.iload_n 2, 1) := by decide +kernel
theorem dX12_strip_56 : decode prog_14_method_54_code 56 = .ok (.bipush 13, 2) := by decide +kernel
theorem dX12_strip_58 : decode prog_14_method_54_code 58 = .ok (.invokevirtual 427, 3) := by decide +kernel
theorem dX12_strip_61 : decode prog_14_method_54_code 61 = .ok (.ifCond .ne 5, 3) := by decide +kernel
theorem dX12_strip_64 : decode prog_14_method_54_code 64 = .ok (.iconst (-1), 1) := by decide +kernel
theorem dX12_strip_65 : decode prog_14_method_54_code 65 = .ok (.ireturn, 1) := by decide +kernel
theorem dX12_strip_66 : decode prog_14_method_54_code 66 = .ok (.iconst 0, 1) := by decide +kernel
theorem dX12_strip_67 : decode prog_14_method_54_code 67 = .ok (.istore_n 3, 1) := by decide +kernel
theorem dX12_strip_68 : decode prog_14_method_54_code 68 = .ok (.aload_n 0, 1) := by decide +kernel
theorem dX12_strip_69 : decode prog_14_method_54_code 69 = .ok (.iconst 1, 1) := by decide +kernel
theorem dX12_strip_70 : decode prog_14_method_54_code 70 = .ok (.sipush (-9999), 3) := by decide +kernel
theorem dX12_strip_73 : decode prog_14_method_54_code 73 = .ok (.iload_n 1, 1) := by decide +kernel
theorem dX12_strip_74 : decode prog_14_method_54_code 74 = .ok (.iload_n 2, 1) := by decide +kernel
theorem dX12_strip_75 : decode prog_14_method_54_code 75 = .ok (.invokevirtual 434, 3) := by decide +kernel
theorem dX12_strip_78 : decode prog_14_method_54_code 78 = .ok (.istore 4, 2) := by decide +kernel
theorem dX12_strip_80 : decode prog_14_method_54_code 80 = .ok (.iload 4, 2) := by decide +kernel
theorem dX12_strip_82 : decode prog_14_method_54_code 82 = .ok (.sipush 9999, 3) := by decide +kernel
theorem dX12_strip_85 : decode prog_14_method_54_code 85 = .ok (.if_icmp .ge 150, 3) := by decide +kernel
theorem dX12_strip_88 : decode prog_14_method_54_code 88 = .ok (.aload_n 0, 1) := by decide +kernel
theorem dX12_strip_89 : decode prog_14_method_54_code 89 = .ok (.iconst 1, 1) := by decide +kernel
theorem dX12_strip_90 : decode prog_14_method_54_code 90 = .ok (.iload 4, 2) := by decide +kernel
theorem dX12_strip_92 : decode prog_14_method_54_code 92 = .ok (.iload_n 1, 1) := by decide +kernel
theorem dX12_strip_93 : decode prog_14_method_54_code 93 = .ok (.iload_n 2, 1) := by decide +kernel
theorem dX12_strip_94 : decode prog_14_method_54_code 94 = .ok (.invokevirtual 434, 3) := by decide +kernel
theorem dX12_strip_97 : decode prog_14_method_54_code 97 = .ok (.iload 4, 2) := by decide +kernel
theorem dX12_strip_99 : decode prog_14_method_54_code 99 = .ok (.isub, 1) := by decide +kernel
theorem dX12_strip_100 : decode prog_14_method_54_code 100 = .ok (.istore 5, 2) := by decide +kernel
theorem dX12_strip_102 : decode prog_14_method_54_code 102 = .ok (.aload_n 0, 1) := by decide +kernel
theorem dX12_strip_103 : decode prog_14_method_54_code 103 = .ok (.iconst 0, 1) := by decide +kernel
theorem dX12_strip_104 : decode prog_14_method_54_code 104 = .ok (.sipush (-9999), 3) := by decide +kernel
theorem dX12_strip_107 : decode prog_14_method_54_code 107 = .ok (.iload_n 1, 1) := by decide +kernel
theorem dX12_strip_108 : decode prog_14_method_54_code 108 = .ok (.iload_n 2, 1) := by decide +kernel
theorem dX12_strip_109 : decode prog_14_method_54_code 109 = .ok (.invokevirtual 434, 3) := by decide +kernel
theorem dX12_strip_112 : decode prog_14_method_54_code 112 = .ok (.istore 6, 2) := by decide +kernel
theorem dX12_strip_114 : decode prog_14_method_54_code 114 = .ok (.iload 6, 2) := by decide +kernel
theorem dX12_strip_116 : decode prog_14_method_54_code 116 = .ok (.sipush 9999, 3) := by decide +kernel
theorem dX12_strip_119 : decode prog_14_method_54_code 119 = .ok (.if_icmp .ge 102, 3) := by decide +kernel
theorem dX12_strip_122 : decode prog_14_method_54_code 122 = .ok (.iload 5, 2) := by decide +kernel
theorem dX12_strip_124 : decode prog_14_method_54_code 124 = .ok (.sipush 9999, 3) := by decide +kernel
theorem dX12_strip_127 : decode prog_14_method_54_code 127 = .ok (.if_icmp .ge 94, 3) := by decide +kernel
theorem dX12_strip_130 : decode prog_14_method_54_code 130 = .ok (.aload_n 0, 1) := by decide +kernel
theorem dX12_strip_131 : decode prog_14_method_54_code 131 = .ok (.iconst 0, 1) := by decide +kernel
theorem dX12_strip_132 : decode prog_14_method_54_code 132 = .ok (.iload 6, 2) := by decide +kernel
theorem dX12_strip_134 : decode prog_14_method_54_code 134 = .ok (.iload_n 1, 1) := by decide +kernel
theorem dX12_strip_135 : decode prog_14_method_54_code 135 = .ok (.iload_n 2, 1) := by decide +kernel
theorem dX12_strip_136 : decode prog_14_method_54_code 136 = .ok (.invokevirtual 434, 3) := by decide +kernel
theorem dX12_strip_139 : decode prog_14_method_54_code 139 = .ok (.iload 6, 2) := by decide +kernel
theorem dX12_strip_141 : decode prog_14_method_54_code 141 = .ok (.isub, 1) := by decide +kernel
theorem dX12_strip_142 : decode prog_14_method_54_code 142 = .ok (.istore 7, 2) := by decide +kernel
theorem dX12_strip_144 : decode prog_14_method_54_code 144 = .ok (.iload 7, 2) := by decide +kernel
theorem dX12_strip_146 : decode prog_14_method_54_code 146 = .ok (.sipush 9999, 3) := by decide +kernel
theorem dX12_strip_149 : decode prog_14_method_54_code 149 = .ok (.if_icmp .ge 58, 3) := by decide +kernel
theorem dX12_strip_152 : decode prog_14_method_54_code 152 = .ok (.aload_n 0, 1) := by decide +kernel
theorem dX12_strip_153 : decode prog_14_method_54_code 153 = .ok (.iload_n 1, 1) := by decide +kernel
theorem dX12_strip_154 : decode prog_14_method_54_code 154 = .ok (.iconst 0, 1) := by decide +kernel
theorem dX12_strip_155 : decode prog_14_method_54_code 155 = .ok (.iconst 2, 1) := by decide +kernel
theorem dX12_strip_156 : decode prog_14_method_54_code 156 = .ok (.iload 4, 2) := by decide +kernel
theorem dX12_strip_158 : decode prog_14_method_54_code 158 = .ok (.imul, 1) := by decide +kernel
theorem dX12_strip_159 : decode prog_14_method_54_code 159 = .ok (.iload 5, 2) := by decide +kernel
theorem dX12_strip_161 : decode prog_14_method_54_code 161 = .ok (.iadd, 1) := by decide +kernel
theorem dX12_strip_162 : decode prog_14_method_54_code 162 = .ok (.iconst 2, 1) := by decide +kernel
theorem dX12_strip_163 : decode prog_14_method_54_code 163 = .ok (.iload 6, 2) := by decide +kernel
theorem dX12_strip_165 : decode prog_14_method_54_code 165 = .ok (.imul, 1) := by decide +kernel
theorem dX12_strip_166 : decode prog_14_method_54_code 166 = .ok (.iload 7, 2) := by decide +kernel
theorem dX12_strip_168 : decode prog_14_method_54_code 168 = .ok (.iadd, 1) := by decide +kernel
theorem dX12_strip_169 : decode prog_14_method_54_code 169 = .ok (.invokevirtual 438, 3) := by decide +kernel
theorem dX12_strip_172 : decode prog_14_method_54_code 172 = .ok (.ifCond .eq 35, 3) := by decide +kernel
theorem dX12_strip_175 : decode prog_14_method_54_code 175 = .ok (.aload_n 0, 1) := by decide +kernel
theorem dX12_strip_176 : decode prog_14_method_54_code 176 = .ok (.iload_n 2, 1) := by decide +kernel
theorem dX12_strip_177 : decode prog_14_method_54_code 177 = .ok (.bipush 13, 2) := by decide +kernel
theorem dX12_strip_179 : decode prog_14_method_54_code 179 = .ok (.iconst 2, 1) := by decide +kernel
theorem dX12_strip_180 : decode prog_14_method_54_code 180 = .ok (.iload 4, 2) := by decide +kernel
theorem dX12_strip_182 : decode prog_14_method_54_code 182 = .ok (.imul, 1) := by decide +kernel
theorem dX12_strip_183 : decode prog_14_method_54_code 183 = .ok (.iload 5, 2) := by decide +kernel
theorem dX12_strip_185 : decode prog_14_method_54_code 185 = .ok (.iadd, 1) := by decide +kernel
theorem dX12_strip_186 : decode prog_14_method_54_code 186 = .ok (.iconst 2, 1) := by decide +kernel
theorem dX12_strip_187 : decode prog_14_method_54_code 187 = .ok (.iload 6, 2) := by decide +kernel
theorem dX12_strip_189 : decode prog_14_method_54_code 189 = .ok (.imul, 1) := by decide +kernel
theorem dX12_strip_190 : decode prog_14_method_54_code 190 = .ok (.iload 7, 2) := by decide +kernel
theorem dX12_strip_192 : decode prog_14_method_54_code 192 = .ok (.iadd, 1) := by decide +kernel
theorem dX12_strip_193 : decode prog_14_method_54_code 193 = .ok (.invokevirtual 438, 3) := by decide +kernel
theorem dX12_strip_196 : decode prog_14_method_54_code 196 = .ok (.ifCond .eq 11, 3) := by decide +kernel
theorem dX12_strip_199 : decode prog_14_method_54_code 199 = .ok (.iload_n 3, 1) := by decide +kernel
theorem dX12_strip_200 : decode prog_14_method_54_code 200 = .ok (.iload 5, 2) := by decide +kernel
theorem dX12_strip_202 : decode prog_14_method_54_code 202 = .ok (.iload 7, 2) := by decide +kernel
theorem dX12_strip_204 : decode prog_14_method_54_code 204 = .ok (.imul, 1) := by decide +kernel
theorem dX12_strip_205 : decode prog_14_method_54_code 205 = .ok (.iadd, 1) := by decide +kernel
theorem dX12_strip_206 : decode prog_14_method_54_code 206 = .ok (.istore_n 3, 1) := by decide +kernel
theorem dX12_strip_207 : decode prog_14_method_54_code 207 = .ok (.aload_n 0, 1) := by decide +kernel
theorem dX12_strip_208 : decode prog_14_method_54_code 208 = .ok (.iconst 0, 1) := by decide +kernel
theorem dX12_strip_209 : decode prog_14_method_54_code 209 = .ok (.iload 6, 2) := by decide +kernel
theorem dX12_strip_211 : decode prog_14_method_54_code 211 = .ok (.iload_n 1, 1) := by decide +kernel
theorem dX12_strip_212 : decode prog_14_method_54_code 212 = .ok (.iload_n 2, 1) := by decide +kernel
theorem dX12_strip_213 : decode prog_14_method_54_code 213 = .ok (.invokevirtual 434, 3) := by decide +kernel
theorem dX12_strip_216 : decode prog_14_method_54_code 216 = .ok (.istore 6, 2) := by decide +kernel
theorem dX12_strip_218 : decode prog_14_method_54_code 218 = .ok (.goto (-104), 3) := by decide +kernel
theorem dX12_strip_221 : decode prog_14_method_54_code 221 = .ok (.aload_n 0, 1) := by decide +kernel
theorem dX12_strip_222 : decode prog_14_method_54_code 222 = .ok (.iconst 1, 1) := by decide +kernel
theorem dX12_strip_223 : decode prog_14_method_54_code 223 = .ok (.iload 4, 2) := by decide +kernel
theorem dX12_strip_225 : decode prog_14_method_54_code 225 = .ok (.iload_n 1, 1) := by decide +kernel
theorem dX12_strip_226 : decode prog_14_method_54_code 226 = .ok (.iload_n 2, 1) := by decide +kernel
theorem dX12_strip_227 : decode prog_14_method_54_code 227 = .ok (.invokevirtual 434, 3) := by decide +kernel
theorem dX12_strip_230 : decode prog_14_method_54_code 230 = .ok (.istore 4, 2) := by decide +kernel
theorem dX12_strip_232 : decode prog_14_method_54_code 232 = .ok (.goto (-152), 3) := by decide +kernel
theorem dX12_strip_235 : decode prog_14_method_54_code 235 = .ok (.iload_n 3, 1) := by decide +kernel
theorem dX12_strip_236 : decode prog_14_method_54_code 236 = .ok (.ireturn, 1) := by decide +kernel
abbrev A_X12_strip_80 (l : Launch) (E : bE) (Q : (Int × bM) → Prop) (v1 : Int) (v2 : Int) (M : bM) : (Int × Int) → Prop := (fun t : Int × Int => V l E xX12_strip (0, 0) 80 [(0, bR 11), (1, bI v1), (2, bI v2), (3, bI (t.1)), (4, bI (t.2))] [] M (b_pI Q))
abbrev X_X12_strip_80 (l : Launch) (E : bE) (Q : (Int × bM) → Prop) (v1 : Int) (v2 : Int) (M : bM) : (Int) → Prop := (fun t : Int => V l E xX12_strip (0, 0) 235 [(3, bI t)] [] M (b_pI Q))
abbrev A_X12_strip_114 (l : Launch) (E : bE) (Q : (Int × bM) → Prop) (v1 : Int) (v2 : Int) (v4 : Int) (v5 : Int) (M : bM) : (Int × Int) → Prop := (fun t : Int × Int => V l E xX12_strip (0, 0) 114 [(0, bR 11), (1, bI v1), (2, bI v2), (3, bI (t.1)), (4, bI v4), (5, bI v5), (6, bI (t.2))] [] M (b_pI Q))
abbrev X_X12_strip_114 (l : Launch) (E : bE) (Q : (Int × bM) → Prop) (v1 : Int) (v2 : Int) (v4 : Int) (v5 : Int) (M : bM) : (Int) → Prop := (fun t : Int => V l E xX12_strip (0, 0) 221 [(0, bR 11), (1, bI v1), (2, bI v2), (3, bI t), (4, bI v4)] [] M (b_pI Q))
noncomputable def F_X12_strip_b207 (v1 : Int) (v2 : Int) (v3 : Int) (v4 : Int) (v5 : Int) (v6 : Int) (M : bM) : Option ((Int × Int) ⊕ (Int)) :=
  b_bind (F_X12_nextOf 0 v6 v1 v2 M) (fun x28 => some (.inl (v3, x28)))
theorem t_X12_strip_b207 {l : Launch} {E : bE} {Q : (Int × bM) → Prop} {v1 : Int} {v2 : Int} {v3 : Int} {v4 : Int} {v5 : Int} {v6 : Int} {M : bM} (h : b_wp (F_X12_strip_b207 v1 v2 v3 v4 v5 v6 M) (Sum.elim (A_X12_strip_114 l E Q v1 v2 v4 v5 M) (X_X12_strip_114 l E Q v1 v2 v4 v5 M))) : V l E xX12_strip (0, 0) 207 [(0, bR 11), (1, bI v1), (2, bI v2), (3, bI v3), (4, bI v4), (5, bI v5), (6, bI v6)] [] M (b_pI Q) := by
  unfold F_X12_strip_b207 at h
  refine v_aload_n (f := 0) 0 rfl dX12_strip_207 ?_
  refine v_iconst ⟨by decide, by decide⟩ dX12_strip_208 ?_
  refine v_iload (i := 6) 6 rfl dX12_strip_209 ?_
  refine v_iload_n (f := 1) 1 rfl dX12_strip_211 ?_
  refine v_iload_n (f := 2) 2 rfl dX12_strip_212 ?_
  refine v_cVIp (nA := 4) (As := [bI _, bI _, bI _, bI _]) (ix := 434) (c_X12_nextOf (b_wp_b h)) rfl kd_11 rfl rfl wc_X12_nextOf wm_12_434 wi_X12_nextOf ws_X12_nextOf wn_12 ⟨by decide, by decide, by decide⟩ rfl ⟨by decide, by decide⟩ ⟨by decide, by decide⟩ (Nat.le_of_ble_eq_true rfl) dX12_strip_213 (fun x28 h => ?_)
  refine v_istore (i := 6) (ls' := [(6, bI _), (0, bR _), (1, bI _), (2, bI _), (3, bI _), (4, bI _), (5, bI _)]) (by decide) dX12_strip_216 rfl ?_
  refine v_goto (tgt := 114) dX12_strip_218 (by decide) ?_
  refine v_sub (ls2 := [(0, bR _), (1, bI _), (2, bI _), (3, bI _), (4, bI _), (5, bI _), (6, bI _)]) [1, 2, 3, 4, 5, 6, 0] rfl ?_
  exact h
noncomputable def F_X12_strip_s114 (v1 : Int) (v2 : Int) (v3 : Int) (v4 : Int) (v5 : Int) (v6 : Int) (M : bM) : Option ((Int × Int) ⊕ (Int)) :=
  if 9999 ≤ v6 then (some (.inr (v3))) else (if 9999 ≤ v5 then (some (.inr (v3))) else (b_bind (F_X12_nextOf 0 v6 v1 v2 M) (fun x24 => b_g (b_i32 (x24 - v6)) (b_let ((x24 - v6)) (fun y26 => if 9999 ≤ y26 then (F_X12_strip_b207 v1 v2 v3 v4 v5 v6 M) else (b_g (b_i32 (2 * v4) ∧ b_i32 ((2 * v4) + v5) ∧ b_i32 (2 * v6) ∧ b_i32 ((2 * v6) + y26)) (b_bind (F_X12_isWithin v1 0 ((2 * v4) + v5) ((2 * v6) + y26) M) (fun x33 => if x33 = 0 then (F_X12_strip_b207 v1 v2 v3 v4 v5 v6 M) else (b_g (b_i32 (2 * v4) ∧ b_i32 ((2 * v4) + v5) ∧ b_i32 (2 * v6) ∧ b_i32 ((2 * v6) + y26)) (b_bind (F_X12_isWithin v2 13 ((2 * v4) + v5) ((2 * v6) + y26) M) (fun x39 => if x39 = 0 then (F_X12_strip_b207 v1 v2 v3 v4 v5 v6 M) else (b_g (b_i32 (v5 * y26) ∧ b_i32 (v3 + (v5 * y26))) (b_let ((v3 + (v5 * y26))) (fun y43 => F_X12_strip_b207 v1 v2 y43 v4 v5 v6 M))))))))))))))
theorem t_X12_strip_s114 {l : Launch} {E : bE} {Q : (Int × bM) → Prop} {v1 : Int} {v2 : Int} {v3 : Int} {v4 : Int} {v5 : Int} {v6 : Int} {M : bM} (h : b_wp (F_X12_strip_s114 v1 v2 v3 v4 v5 v6 M) (Sum.elim (A_X12_strip_114 l E Q v1 v2 v4 v5 M) (X_X12_strip_114 l E Q v1 v2 v4 v5 M))) : V l E xX12_strip (0, 0) 114 [(0, bR 11), (1, bI v1), (2, bI v2), (3, bI v3), (4, bI v4), (5, bI v5), (6, bI v6)] [] M (b_pI Q) := by
  unfold F_X12_strip_s114 at h
  refine v_iload (i := 6) 6 rfl dX12_strip_114 ?_
  refine v_sipush ⟨by decide, by decide⟩ (by decide) dX12_strip_116 ?_
  refine v_icmp_ge (tgt := 221) dX12_strip_119 (by decide) (fun c22 => ?_) (fun c22 => ?_)
  · replace h := b_wp_t c22 h
    refine v_sub (ls2 := [(0, bR _), (1, bI _), (2, bI _), (3, bI _), (4, bI _)]) [0, 1, 2, 3, 4] rfl ?_
    exact h
  · replace h := b_wp_f c22 h
    refine v_iload (i := 5) 5 rfl dX12_strip_122 ?_
    refine v_sipush ⟨by decide, by decide⟩ (by decide) dX12_strip_124 ?_
    refine v_icmp_ge (tgt := 221) dX12_strip_127 (by decide) (fun c23 => ?_) (fun c23 => ?_)
    · replace h := b_wp_t c23 h
      refine v_sub (ls2 := [(0, bR _), (1, bI _), (2, bI _), (3, bI _), (4, bI _)]) [0, 1, 2, 3, 4] rfl ?_
      exact h
    · replace h := b_wp_f c23 h
      refine v_aload_n (f := 0) 0 rfl dX12_strip_130 ?_
      refine v_iconst ⟨by decide, by decide⟩ dX12_strip_131 ?_
      refine v_iload (i := 6) 6 rfl dX12_strip_132 ?_
      refine v_iload_n (f := 1) 1 rfl dX12_strip_134 ?_
      refine v_iload_n (f := 2) 2 rfl dX12_strip_135 ?_
      refine v_cVIp (nA := 4) (As := [bI _, bI _, bI _, bI _]) (ix := 434) (c_X12_nextOf (b_wp_b h)) rfl kd_11 rfl rfl wc_X12_nextOf wm_12_434 wi_X12_nextOf ws_X12_nextOf wn_12 ⟨by decide, by decide, by decide⟩ rfl ⟨by decide, by decide⟩ ⟨by decide, by decide⟩ (Nat.le_of_ble_eq_true rfl) dX12_strip_136 (fun x24 h => ?_)
      obtain ⟨g25, h⟩ := b_wp_g h
      refine v_iload (i := 6) 6 rfl dX12_strip_139 ?_
      refine v_isubN g25 dX12_strip_141 ?_
      replace h := b_wp_l h
      refine v_istore (i := 7) (ls' := [(7, bI _), (0, bR _), (1, bI _), (2, bI _), (3, bI _), (4, bI _), (5, bI _), (6, bI _)]) (by decide) dX12_strip_142 rfl ?_
      refine v_iload (i := 7) 0 rfl dX12_strip_144 ?_
      refine v_sipush ⟨by decide, by decide⟩ (by decide) dX12_strip_146 ?_
      refine v_icmp_ge (tgt := 207) dX12_strip_149 (by decide) (fun c27 => ?_) (fun c27 => ?_)
      · replace h := b_wp_t c27 h
        refine v_sub (ls2 := [(0, bR _), (1, bI _), (2, bI _), (3, bI _), (4, bI _), (5, bI _), (6, bI _)]) [1, 2, 3, 4, 5, 6, 7] rfl ?_
        exact t_X12_strip_b207 h
      · replace h := b_wp_f c27 h
        obtain ⟨⟨g29, g30, g31, g32⟩, h⟩ := b_wp_g h
        refine v_aload_n (f := 0) 1 rfl dX12_strip_152 ?_
        refine v_iload_n (f := 1) 2 rfl dX12_strip_153 ?_
        refine v_iconst ⟨by decide, by decide⟩ dX12_strip_154 ?_
        refine v_iconst ⟨by decide, by decide⟩ dX12_strip_155 ?_
        refine v_iload (i := 4) 5 rfl dX12_strip_156 ?_
        refine v_imulN g29 dX12_strip_158 ?_
        refine v_iload (i := 5) 6 rfl dX12_strip_159 ?_
        refine v_iaddN g30 dX12_strip_161 ?_
        refine v_iconst ⟨by decide, by decide⟩ dX12_strip_162 ?_
        refine v_iload (i := 6) 7 rfl dX12_strip_163 ?_
        refine v_imulN g31 dX12_strip_165 ?_
        refine v_iload (i := 7) 0 rfl dX12_strip_166 ?_
        refine v_iaddN g32 dX12_strip_168 ?_
        refine v_cVIp (nA := 4) (As := [bI _, bI _, bI _, bI _]) (ix := 438) (c_X12_isWithin (b_wp_b h)) rfl kd_11 rfl rfl wc_X12_isWithin wm_12_438 wi_X12_isWithin ws_X12_isWithin wn_12 ⟨by decide, by decide, by decide⟩ rfl ⟨by decide, by decide⟩ ⟨by decide, by decide⟩ (Nat.le_of_ble_eq_true rfl) dX12_strip_169 (fun x33 h => ?_)
        refine v_if_eq (tgt := 207) dX12_strip_172 (by decide) (fun c34 => ?_) (fun c34 => ?_)
        · replace h := b_wp_t c34 h
          refine v_sub (ls2 := [(0, bR _), (1, bI _), (2, bI _), (3, bI _), (4, bI _), (5, bI _), (6, bI _)]) [1, 2, 3, 4, 5, 6, 7] rfl ?_
          exact t_X12_strip_b207 h
        · replace h := b_wp_f c34 h
          obtain ⟨⟨g35, g36, g37, g38⟩, h⟩ := b_wp_g h
          refine v_aload_n (f := 0) 1 rfl dX12_strip_175 ?_
          refine v_iload_n (f := 2) 3 rfl dX12_strip_176 ?_
          refine v_bipush ⟨by decide, by decide⟩ (by decide) dX12_strip_177 ?_
          refine v_iconst ⟨by decide, by decide⟩ dX12_strip_179 ?_
          refine v_iload (i := 4) 5 rfl dX12_strip_180 ?_
          refine v_imulN g35 dX12_strip_182 ?_
          refine v_iload (i := 5) 6 rfl dX12_strip_183 ?_
          refine v_iaddN g36 dX12_strip_185 ?_
          refine v_iconst ⟨by decide, by decide⟩ dX12_strip_186 ?_
          refine v_iload (i := 6) 7 rfl dX12_strip_187 ?_
          refine v_imulN g37 dX12_strip_189 ?_
          refine v_iload (i := 7) 0 rfl dX12_strip_190 ?_
          refine v_iaddN g38 dX12_strip_192 ?_
          refine v_cVIp (nA := 4) (As := [bI _, bI _, bI _, bI _]) (ix := 438) (c_X12_isWithin (b_wp_b h)) rfl kd_11 rfl rfl wc_X12_isWithin wm_12_438 wi_X12_isWithin ws_X12_isWithin wn_12 ⟨by decide, by decide, by decide⟩ rfl ⟨by decide, by decide⟩ ⟨by decide, by decide⟩ (Nat.le_of_ble_eq_true rfl) dX12_strip_193 (fun x39 h => ?_)
          refine v_if_eq (tgt := 207) dX12_strip_196 (by decide) (fun c40 => ?_) (fun c40 => ?_)
          · replace h := b_wp_t c40 h
            refine v_sub (ls2 := [(0, bR _), (1, bI _), (2, bI _), (3, bI _), (4, bI _), (5, bI _), (6, bI _)]) [1, 2, 3, 4, 5, 6, 7] rfl ?_
            exact t_X12_strip_b207 h
          · replace h := b_wp_f c40 h
            obtain ⟨⟨g41, g42⟩, h⟩ := b_wp_g h
            refine v_iload_n (f := 3) 4 rfl dX12_strip_199 ?_
            refine v_iload (i := 5) 6 rfl dX12_strip_200 ?_
            refine v_iload (i := 7) 0 rfl dX12_strip_202 ?_
            refine v_imulN g41 dX12_strip_204 ?_
            refine v_iaddN g42 dX12_strip_205 ?_
            replace h := b_wp_l h
            refine v_istore_n (g := 3) (i := 3) (ls' := [(3, bI _), (7, bI _), (0, bR _), (1, bI _), (2, bI _), (4, bI _), (5, bI _), (6, bI _)]) rfl (by decide) dX12_strip_206 rfl ?_
            refine v_sub (ls2 := [(0, bR _), (1, bI _), (2, bI _), (3, bI _), (4, bI _), (5, bI _), (6, bI _)]) [2, 3, 4, 0, 5, 6, 7] rfl ?_
            exact t_X12_strip_b207 h
theorem l_X12_strip_114 {l : Launch} {E : bE} {Q : (Int × bM) → Prop} {v1 : Int} {v2 : Int} {v4 : Int} {v5 : Int} {M : bM} {s : Int × Int} (h : b_wp (b_loop (fun t => F_X12_strip_s114 v1 v2 t.1 v4 v5 t.2 M) s) (X_X12_strip_114 l E Q v1 v2 v4 v5 M)) : A_X12_strip_114 l E Q v1 v2 v4 v5 M s := b_loop_wp (fun t h => t_X12_strip_s114 h) s h
noncomputable def F_X12_strip_b221 (v1 : Int) (v2 : Int) (v3 : Int) (v4 : Int) (M : bM) : Option ((Int × Int) ⊕ (Int)) :=
  b_bind (F_X12_nextOf 1 v4 v1 v2 M) (fun x44 => some (.inl (v3, x44)))
theorem t_X12_strip_b221 {l : Launch} {E : bE} {Q : (Int × bM) → Prop} {v1 : Int} {v2 : Int} {v3 : Int} {v4 : Int} {M : bM} (h : b_wp (F_X12_strip_b221 v1 v2 v3 v4 M) (Sum.elim (A_X12_strip_80 l E Q v1 v2 M) (X_X12_strip_80 l E Q v1 v2 M))) : V l E xX12_strip (0, 0) 221 [(0, bR 11), (1, bI v1), (2, bI v2), (3, bI v3), (4, bI v4)] [] M (b_pI Q) := by
  unfold F_X12_strip_b221 at h
  refine v_aload_n (f := 0) 0 rfl dX12_strip_221 ?_
  refine v_iconst ⟨by decide, by decide⟩ dX12_strip_222 ?_
  refine v_iload (i := 4) 4 rfl dX12_strip_223 ?_
  refine v_iload_n (f := 1) 1 rfl dX12_strip_225 ?_
  refine v_iload_n (f := 2) 2 rfl dX12_strip_226 ?_
  refine v_cVIp (nA := 4) (As := [bI _, bI _, bI _, bI _]) (ix := 434) (c_X12_nextOf (b_wp_b h)) rfl kd_11 rfl rfl wc_X12_nextOf wm_12_434 wi_X12_nextOf ws_X12_nextOf wn_12 ⟨by decide, by decide, by decide⟩ rfl ⟨by decide, by decide⟩ ⟨by decide, by decide⟩ (Nat.le_of_ble_eq_true rfl) dX12_strip_227 (fun x44 h => ?_)
  refine v_istore (i := 4) (ls' := [(4, bI _), (0, bR _), (1, bI _), (2, bI _), (3, bI _)]) (by decide) dX12_strip_230 rfl ?_
  refine v_goto (tgt := 80) dX12_strip_232 (by decide) ?_
  refine v_sub (ls2 := [(0, bR _), (1, bI _), (2, bI _), (3, bI _), (4, bI _)]) [1, 2, 3, 4, 0] rfl ?_
  exact h
noncomputable def F_X12_strip_s80 (v1 : Int) (v2 : Int) (v3 : Int) (v4 : Int) (M : bM) : Option ((Int × Int) ⊕ (Int)) :=
  if 9999 ≤ v4 then (some (.inr (v3))) else (b_bind (F_X12_nextOf 1 v4 v1 v2 M) (fun x18 => b_g (b_i32 (x18 - v4)) (b_let ((x18 - v4)) (fun y20 => b_bind (F_X12_nextOf 0 (-9999) v1 v2 M) (fun x21 => b_bind (b_loop (fun t => F_X12_strip_s114 v1 v2 t.1 v4 y20 t.2 M) (v3, x21)) (fun t => F_X12_strip_b221 v1 v2 t v4 M))))))
theorem t_X12_strip_s80 {l : Launch} {E : bE} {Q : (Int × bM) → Prop} {v1 : Int} {v2 : Int} {v3 : Int} {v4 : Int} {M : bM} (h : b_wp (F_X12_strip_s80 v1 v2 v3 v4 M) (Sum.elim (A_X12_strip_80 l E Q v1 v2 M) (X_X12_strip_80 l E Q v1 v2 M))) : V l E xX12_strip (0, 0) 80 [(0, bR 11), (1, bI v1), (2, bI v2), (3, bI v3), (4, bI v4)] [] M (b_pI Q) := by
  unfold F_X12_strip_s80 at h
  refine v_iload (i := 4) 4 rfl dX12_strip_80 ?_
  refine v_sipush ⟨by decide, by decide⟩ (by decide) dX12_strip_82 ?_
  refine v_icmp_ge (tgt := 235) dX12_strip_85 (by decide) (fun c17 => ?_) (fun c17 => ?_)
  · replace h := b_wp_t c17 h
    refine v_sub (ls2 := [(3, bI _)]) [3] rfl ?_
    exact h
  · replace h := b_wp_f c17 h
    refine v_aload_n (f := 0) 0 rfl dX12_strip_88 ?_
    refine v_iconst ⟨by decide, by decide⟩ dX12_strip_89 ?_
    refine v_iload (i := 4) 4 rfl dX12_strip_90 ?_
    refine v_iload_n (f := 1) 1 rfl dX12_strip_92 ?_
    refine v_iload_n (f := 2) 2 rfl dX12_strip_93 ?_
    refine v_cVIp (nA := 4) (As := [bI _, bI _, bI _, bI _]) (ix := 434) (c_X12_nextOf (b_wp_b h)) rfl kd_11 rfl rfl wc_X12_nextOf wm_12_434 wi_X12_nextOf ws_X12_nextOf wn_12 ⟨by decide, by decide, by decide⟩ rfl ⟨by decide, by decide⟩ ⟨by decide, by decide⟩ (Nat.le_of_ble_eq_true rfl) dX12_strip_94 (fun x18 h => ?_)
    obtain ⟨g19, h⟩ := b_wp_g h
    refine v_iload (i := 4) 4 rfl dX12_strip_97 ?_
    refine v_isubN g19 dX12_strip_99 ?_
    replace h := b_wp_l h
    refine v_istore (i := 5) (ls' := [(5, bI _), (0, bR _), (1, bI _), (2, bI _), (3, bI _), (4, bI _)]) (by decide) dX12_strip_100 rfl ?_
    refine v_aload_n (f := 0) 1 rfl dX12_strip_102 ?_
    refine v_iconst ⟨by decide, by decide⟩ dX12_strip_103 ?_
    refine v_sipush ⟨by decide, by decide⟩ (by decide) dX12_strip_104 ?_
    refine v_iload_n (f := 1) 2 rfl dX12_strip_107 ?_
    refine v_iload_n (f := 2) 3 rfl dX12_strip_108 ?_
    refine v_cVIp (nA := 4) (As := [bI _, bI _, bI _, bI _]) (ix := 434) (c_X12_nextOf (b_wp_b h)) rfl kd_11 rfl rfl wc_X12_nextOf wm_12_434 wi_X12_nextOf ws_X12_nextOf wn_12 ⟨by decide, by decide, by decide⟩ rfl ⟨by decide, by decide⟩ ⟨by decide, by decide⟩ (Nat.le_of_ble_eq_true rfl) dX12_strip_109 (fun x21 h => ?_)
    refine v_istore (i := 6) (ls' := [(6, bI _), (5, bI _), (0, bR _), (1, bI _), (2, bI _), (3, bI _), (4, bI _)]) (by decide) dX12_strip_112 rfl ?_
    refine v_sub (ls2 := [(0, bR _), (1, bI _), (2, bI _), (3, bI _), (4, bI _), (5, bI _), (6, bI _)]) [2, 3, 4, 5, 6, 1, 0] rfl ?_
    refine l_X12_strip_114 (b_wp_m (fun t h => ?_) (b_wp_b h))
    show V l E xX12_strip (0, 0) 221 [(0, bR 11), (1, bI v1), (2, bI v2), (3, bI t), (4, bI v4)] [] M (b_pI Q)
    replace h : b_wp (F_X12_strip_b221 v1 v2 t v4 M) _ := h
    exact t_X12_strip_b221 h
theorem l_X12_strip_80 {l : Launch} {E : bE} {Q : (Int × bM) → Prop} {v1 : Int} {v2 : Int} {M : bM} {s : Int × Int} (h : b_wp (b_loop (fun t => F_X12_strip_s80 v1 v2 t.1 t.2 M) s) (X_X12_strip_80 l E Q v1 v2 M)) : A_X12_strip_80 l E Q v1 v2 M s := b_loop_wp (fun t h => t_X12_strip_s80 h) s h
noncomputable def F_X12_strip_b235 (v3 : Int) (M : bM) : Option (Int × bM) :=
  some (v3, M)
theorem t_X12_strip_b235 {l : Launch} {E : bE} {Q : (Int × bM) → Prop} {v3 : Int} {M : bM} (h : b_wp (F_X12_strip_b235 v3 M) (Q)) : V l E xX12_strip (0, 0) 235 [(3, bI v3)] [] M (b_pI Q) := by
  unfold F_X12_strip_b235 at h
  refine v_iload_n (f := 3) 0 rfl dX12_strip_235 ?_
  refine v_ireturn rfl dX12_strip_236 ⟨by decide, by decide⟩ ?_
  exact ⟨_, rfl, h⟩
noncomputable def F_X12_strip (v1 : Int) (v2 : Int) (M : bM) : Option (Int × bM) :=
  b_bind (F_X12_isLot v1 M) (fun x1 => if x1 = 0 then (some ((-2), M)) else (b_bind (F_X12_isLot v2 M) (fun x3 => if x3 = 0 then (some ((-2), M)) else (if v1 = v2 then (some ((-2), M)) else (b_g (0 ≤ v1 ∧ v1 < 60) (if (M 175 v1) = 0 then (some ((-4), M)) else (b_g (0 ≤ v2 ∧ v2 < 60) (if (M 175 v2) = 0 then (some ((-4), M)) else (b_bind (F_X12_isArea v1 0 M) (fun t => b_two t (fun x10 M11 => if x10 = 0 then (some ((-1), M11)) else (b_bind (F_X12_isArea v2 13 M11) (fun t => b_two t (fun x13 M14 => if x13 = 0 then (some ((-1), M14)) else (b_bind (F_X12_nextOf 1 (-9999) v1 v2 M14) (fun x16 => b_bind (b_loop (fun t => F_X12_strip_s80 v1 v2 t.1 t.2 M14) (0, x16)) (fun t => F_X12_strip_b235 t M14)))))))))))))))))
theorem t_X12_strip {l : Launch} {E : bE} {Q : (Int × bM) → Prop} {v1 : Int} {v2 : Int} {M : bM} (h : b_wp (F_X12_strip v1 v2 M) (Q)) : V l E xX12_strip (0, 0) 0 [(0, bR 11), (1, bI v1), (2, bI v2)] [] M (b_pI Q) := by
  unfold F_X12_strip at h
  refine v_aload_n (f := 0) 0 rfl dX12_strip_0 ?_
  refine v_iload_n (f := 1) 1 rfl dX12_strip_1 ?_
  refine v_cVIp (nA := 1) (As := [bI _]) (ix := 385) (c_X12_isLot (b_wp_b h)) rfl kd_11 rfl rfl wc_X12_isLot wm_12_385 wi_X12_isLot ws_X12_isLot wn_12 ⟨by decide, by decide, by decide⟩ rfl ⟨by decide, by decide⟩ ⟨by decide, by decide⟩ (Nat.le_of_ble_eq_true rfl) dX12_strip_2 (fun x1 h => ?_)
  refine v_if_eq (tgt := 21) dX12_strip_5 (by decide) (fun c2 => ?_) (fun c2 => ?_)
  · replace h := b_wp_t c2 h
    refine v_bipush ⟨by decide, by decide⟩ (by decide) dX12_strip_21 ?_
    refine v_ireturn rfl dX12_strip_23 ⟨by decide, by decide⟩ ?_
    exact ⟨_, rfl, h⟩
  · replace h := b_wp_f c2 h
    refine v_aload_n (f := 0) 0 rfl dX12_strip_8 ?_
    refine v_iload_n (f := 2) 2 rfl dX12_strip_9 ?_
    refine v_cVIp (nA := 1) (As := [bI _]) (ix := 385) (c_X12_isLot (b_wp_b h)) rfl kd_11 rfl rfl wc_X12_isLot wm_12_385 wi_X12_isLot ws_X12_isLot wn_12 ⟨by decide, by decide, by decide⟩ rfl ⟨by decide, by decide⟩ ⟨by decide, by decide⟩ (Nat.le_of_ble_eq_true rfl) dX12_strip_10 (fun x3 h => ?_)
    refine v_if_eq (tgt := 21) dX12_strip_13 (by decide) (fun c4 => ?_) (fun c4 => ?_)
    · replace h := b_wp_t c4 h
      refine v_bipush ⟨by decide, by decide⟩ (by decide) dX12_strip_21 ?_
      refine v_ireturn rfl dX12_strip_23 ⟨by decide, by decide⟩ ?_
      exact ⟨_, rfl, h⟩
    · replace h := b_wp_f c4 h
      refine v_iload_n (f := 1) 1 rfl dX12_strip_16 ?_
      refine v_iload_n (f := 2) 2 rfl dX12_strip_17 ?_
      refine v_icmp_ne (tgt := 24) dX12_strip_18 (by decide) (fun c5 => ?_) (fun c5 => ?_)
      · replace h := b_wp_f c5 h
        obtain ⟨g6, h⟩ := b_wp_g h
        refine v_aload_n (f := 0) 0 rfl dX12_strip_24 ?_
        refine v_getR (kf := 27) (kz := 27) rfl kd_11 rfl ⟨by decide, by decide⟩ rfl wf_12_55 dX12_strip_25 ?_
        refine v_iload_n (f := 1) 1 rfl dX12_strip_28 ?_
        refine v_iaload kd_175 g6 (by decide) dX12_strip_29 ?_
        refine v_if_eq (tgt := 42) dX12_strip_30 (by decide) (fun c7 => ?_) (fun c7 => ?_)
        · replace h := b_wp_t c7 h
          refine v_bipush ⟨by decide, by decide⟩ (by decide) dX12_strip_42 ?_
          refine v_ireturn rfl dX12_strip_44 ⟨by decide, by decide⟩ ?_
          exact ⟨_, rfl, h⟩
        · replace h := b_wp_f c7 h
          obtain ⟨g8, h⟩ := b_wp_g h
          refine v_aload_n (f := 0) 0 rfl dX12_strip_33 ?_
          refine v_getR (kf := 27) (kz := 27) rfl kd_11 rfl ⟨by decide, by decide⟩ rfl wf_12_55 dX12_strip_34 ?_
          refine v_iload_n (f := 2) 2 rfl dX12_strip_37 ?_
          refine v_iaload kd_175 g8 (by decide) dX12_strip_38 ?_
          refine v_if_ne (tgt := 45) dX12_strip_39 (by decide) (fun c9 => ?_) (fun c9 => ?_)
          · replace h := b_wp_f c9 h
            refine v_aload_n (f := 0) 0 rfl dX12_strip_45 ?_
            refine v_iload_n (f := 1) 1 rfl dX12_strip_46 ?_
            refine v_iconst ⟨by decide, by decide⟩ dX12_strip_47 ?_
            refine v_cVI (nA := 2) (As := [bI _, bI _]) (ix := 427) (c_X12_isArea (b_wp_b h)) rfl kd_11 rfl rfl wc_X12_isArea wm_12_427 wi_X12_isArea ws_X12_isArea wn_12 ⟨by decide, by decide, by decide⟩ rfl ⟨by decide, by decide⟩ ⟨by decide, by decide⟩ (Nat.le_of_ble_eq_true rfl) dX12_strip_48 (fun x10 M11 h => ?_)
            replace h := b_wp_two h
            refine v_if_eq (tgt := 64) dX12_strip_51 (by decide) (fun c12 => ?_) (fun c12 => ?_)
            · replace h := b_wp_t c12 h
              refine v_iconst ⟨by decide, by decide⟩ dX12_strip_64 ?_
              refine v_ireturn rfl dX12_strip_65 ⟨by decide, by decide⟩ ?_
              exact ⟨_, rfl, h⟩
            · replace h := b_wp_f c12 h
              refine v_aload_n (f := 0) 0 rfl dX12_strip_54 ?_
              refine v_iload_n (f := 2) 2 rfl dX12_strip_55 ?_
              refine v_bipush ⟨by decide, by decide⟩ (by decide) dX12_strip_56 ?_
              refine v_cVI (nA := 2) (As := [bI _, bI _]) (ix := 427) (c_X12_isArea (b_wp_b h)) rfl kd_11 rfl rfl wc_X12_isArea wm_12_427 wi_X12_isArea ws_X12_isArea wn_12 ⟨by decide, by decide, by decide⟩ rfl ⟨by decide, by decide⟩ ⟨by decide, by decide⟩ (Nat.le_of_ble_eq_true rfl) dX12_strip_58 (fun x13 M14 h => ?_)
              replace h := b_wp_two h
              refine v_if_ne (tgt := 66) dX12_strip_61 (by decide) (fun c15 => ?_) (fun c15 => ?_)
              · replace h := b_wp_f c15 h
                refine v_iconst ⟨by decide, by decide⟩ dX12_strip_66 ?_
                refine v_istore_n (g := 3) (i := 3) (ls' := [(3, bI _), (0, bR _), (1, bI _), (2, bI _)]) rfl (by decide) dX12_strip_67 rfl ?_
                refine v_aload_n (f := 0) 1 rfl dX12_strip_68 ?_
                refine v_iconst ⟨by decide, by decide⟩ dX12_strip_69 ?_
                refine v_sipush ⟨by decide, by decide⟩ (by decide) dX12_strip_70 ?_
                refine v_iload_n (f := 1) 2 rfl dX12_strip_73 ?_
                refine v_iload_n (f := 2) 3 rfl dX12_strip_74 ?_
                refine v_cVIp (nA := 4) (As := [bI _, bI _, bI _, bI _]) (ix := 434) (c_X12_nextOf (b_wp_b h)) rfl kd_11 rfl rfl wc_X12_nextOf wm_12_434 wi_X12_nextOf ws_X12_nextOf wn_12 ⟨by decide, by decide, by decide⟩ rfl ⟨by decide, by decide⟩ ⟨by decide, by decide⟩ (Nat.le_of_ble_eq_true rfl) dX12_strip_75 (fun x16 h => ?_)
                refine v_istore (i := 4) (ls' := [(4, bI _), (3, bI _), (0, bR _), (1, bI _), (2, bI _)]) (by decide) dX12_strip_78 rfl ?_
                refine v_sub (ls2 := [(0, bR _), (1, bI _), (2, bI _), (3, bI _), (4, bI _)]) [2, 3, 4, 1, 0] rfl ?_
                refine l_X12_strip_80 (b_wp_m (fun t h => ?_) (b_wp_b h))
                show V l E xX12_strip (0, 0) 235 [(3, bI t)] [] M14 (b_pI Q)
                replace h : b_wp (F_X12_strip_b235 t M14) _ := h
                exact t_X12_strip_b235 h
              · replace h := b_wp_t c15 h
                refine v_iconst ⟨by decide, by decide⟩ dX12_strip_64 ?_
                refine v_ireturn rfl dX12_strip_65 ⟨by decide, by decide⟩ ?_
                exact ⟨_, rfl, h⟩
          · replace h := b_wp_t c9 h
            refine v_bipush ⟨by decide, by decide⟩ (by decide) dX12_strip_42 ?_
            refine v_ireturn rfl dX12_strip_44 ⟨by decide, by decide⟩ ?_
            exact ⟨_, rfl, h⟩
      · replace h := b_wp_t c5 h
        refine v_bipush ⟨by decide, by decide⟩ (by decide) dX12_strip_21 ?_
        refine v_ireturn rfl dX12_strip_23 ⟨by decide, by decide⟩ ?_
        exact ⟨_, rfl, h⟩
theorem c_X12_strip {l : Launch} {E : bE} {M : bM} {v1 : Int} {v2 : Int} {Q : (Int × bM) → Prop} (h : b_wp (F_X12_strip v1 v2 M) Q) : b_C l E xX12_strip yX12_strip [bR 11, bI v1, bI v2] M (b_pI Q) := b_met (by decide) ⟨rfl, rfl⟩ (Nat.le_of_ble_eq_true rfl) (fun _ _ => t_X12_strip h)
noncomputable def F_X12_plain (v0 : Int) (M : bM) : Option (Int) :=
  if v0 = 0 then (some 1) else (if v0 = 1 then (some 20) else (if v0 = 2 then (some 8) else (if v0 = 3 then (some 2) else (if v0 = 4 then (some 30) else (if v0 = 5 then (some 20) else (if v0 = 6 then (some 10) else (if v0 = 7 then (some 2) else (some 0))))))))
theorem t_X12_plain {l : Launch} {E : bE} {Q : Int → Prop} {v0 : Int} {M : bM} (h : b_wp (F_X12_plain v0 M) (Q)) : V l E xX12_plain (0, 0) 0 [(0, bI v0)] [] M (b_pIp M Q) := by
  unfold F_X12_plain at h
  refine v_iload_n (f := 0) 0 rfl dX12_plain_0 ?_
  refine v_case (v := 0) (fun c1 => ?_) (fun c2 => ?_)
  · refine v_tsIn (tgt := 48) (0) c1 (by decide) (by decide) rfl dX12_plain_1 (by decide) ?_
    replace h := b_wp_t c1 h
    refine v_iconst ⟨by decide, by decide⟩ dX12_plain_48 ?_
    refine v_ireturn rfl dX12_plain_49 ⟨by decide, by decide⟩ ?_
    exact ⟨_, rfl, rfl, h⟩
  replace h := b_wp_f c2 h
  refine v_case (v := 1) (fun c3 => ?_) (fun c4 => ?_)
  · refine v_tsIn (tgt := 50) (1) c3 (by decide) (by decide) rfl dX12_plain_1 (by decide) ?_
    replace h := b_wp_t c3 h
    refine v_bipush ⟨by decide, by decide⟩ (by decide) dX12_plain_50 ?_
    refine v_ireturn rfl dX12_plain_52 ⟨by decide, by decide⟩ ?_
    exact ⟨_, rfl, rfl, h⟩
  replace h := b_wp_f c4 h
  refine v_case (v := 2) (fun c5 => ?_) (fun c6 => ?_)
  · refine v_tsIn (tgt := 53) (2) c5 (by decide) (by decide) rfl dX12_plain_1 (by decide) ?_
    replace h := b_wp_t c5 h
    refine v_bipush ⟨by decide, by decide⟩ (by decide) dX12_plain_53 ?_
    refine v_ireturn rfl dX12_plain_55 ⟨by decide, by decide⟩ ?_
    exact ⟨_, rfl, rfl, h⟩
  replace h := b_wp_f c6 h
  refine v_case (v := 3) (fun c7 => ?_) (fun c8 => ?_)
  · refine v_tsIn (tgt := 56) (3) c7 (by decide) (by decide) rfl dX12_plain_1 (by decide) ?_
    replace h := b_wp_t c7 h
    refine v_iconst ⟨by decide, by decide⟩ dX12_plain_56 ?_
    refine v_ireturn rfl dX12_plain_57 ⟨by decide, by decide⟩ ?_
    exact ⟨_, rfl, rfl, h⟩
  replace h := b_wp_f c8 h
  refine v_case (v := 4) (fun c9 => ?_) (fun c10 => ?_)
  · refine v_tsIn (tgt := 58) (4) c9 (by decide) (by decide) rfl dX12_plain_1 (by decide) ?_
    replace h := b_wp_t c9 h
    refine v_bipush ⟨by decide, by decide⟩ (by decide) dX12_plain_58 ?_
    refine v_ireturn rfl dX12_plain_60 ⟨by decide, by decide⟩ ?_
    exact ⟨_, rfl, rfl, h⟩
  replace h := b_wp_f c10 h
  refine v_case (v := 5) (fun c11 => ?_) (fun c12 => ?_)
  · refine v_tsIn (tgt := 61) (5) c11 (by decide) (by decide) rfl dX12_plain_1 (by decide) ?_
    replace h := b_wp_t c11 h
    refine v_bipush ⟨by decide, by decide⟩ (by decide) dX12_plain_61 ?_
    refine v_ireturn rfl dX12_plain_63 ⟨by decide, by decide⟩ ?_
    exact ⟨_, rfl, rfl, h⟩
  replace h := b_wp_f c12 h
  refine v_case (v := 6) (fun c13 => ?_) (fun c14 => ?_)
  · refine v_tsIn (tgt := 64) (6) c13 (by decide) (by decide) rfl dX12_plain_1 (by decide) ?_
    replace h := b_wp_t c13 h
    refine v_bipush ⟨by decide, by decide⟩ (by decide) dX12_plain_64 ?_
    refine v_ireturn rfl dX12_plain_66 ⟨by decide, by decide⟩ ?_
    exact ⟨_, rfl, rfl, h⟩
  replace h := b_wp_f c14 h
  refine v_case (v := 7) (fun c15 => ?_) (fun c16 => ?_)
  · refine v_tsIn (tgt := 67) (7) c15 (by decide) (by decide) rfl dX12_plain_1 (by decide) ?_
    replace h := b_wp_t c15 h
    refine v_iconst ⟨by decide, by decide⟩ dX12_plain_67 ?_
    refine v_ireturn rfl dX12_plain_68 ⟨by decide, by decide⟩ ?_
    exact ⟨_, rfl, rfl, h⟩
  replace h := b_wp_f c16 h
  refine v_tsOut (tgt := 69) (by omega) dX12_plain_1 (by decide) ?_
  refine v_iconst ⟨by decide, by decide⟩ dX12_plain_69 ?_
  refine v_ireturn rfl dX12_plain_70 ⟨by decide, by decide⟩ ?_
  exact ⟨_, rfl, rfl, h⟩
theorem c_X12_plain {l : Launch} {E : bE} {M : bM} {v0 : Int} {Q : Int → Prop} (h : b_wp (F_X12_plain v0 M) Q) : b_C l E xX12_plain yX12_plain [bI v0] M (b_pIp M Q) := b_met (by decide) ⟨rfl, rfl⟩ (Nat.le_of_ble_eq_true rfl) (fun _ _ => t_X12_plain h)
abbrev xX12_high : bX := ("BurntHallModel", prog_14_method_56_code, 1, (Option.some Jvm.ClassFile.FieldType.int), b_rm 1 0 0, 0, "high")
abbrev yX12_high : MethodName := ⟨"BurntHallModel", "high", "(I)I"⟩
theorem dX12_high_0 : decode prog_14_method_56_code 0 = .ok (.iload_n 0, 1) := by decide +kernel
theorem dX12_high_1 : decode prog_14_method_56_code 1 = .ok (.iconst 3, 1) := by decide +kernel
theorem dX12_high_2 : decode prog_14_method_56_code 2 = .ok (.if_icmp .lt 8, 3) := by decide +kernel
theorem dX12_high_5 : decode prog_14_method_56_code 5 = .ok (.iload_n 0, 1) := by decide +kernel
theorem dX12_high_6 : decode prog_14_method_56_code 6 = .ok (.iconst 4, 1) := by decide +kernel
theorem dX12_high_7 : decode prog_14_method_56_code 7 = .ok (.if_icmp .ne 9, 3) := by decide +kernel
theorem dX12_high_10 : decode prog_14_method_56_code 10 = .ok (.sipush 999, 3) := by decide +kernel
theorem dX12_high_13 : decode prog_14_method_56_code 13 = .ok (.goto 33, 3) := by decide +kernel
theorem dX12_high_16 : decode prog_14_method_56_code 16 = .ok (.iload_n 0, 1) := by decide +kernel
theorem dX12_high_17 : decode prog_14_method_56_code 17 = .ok (.iconst 3, 1) := by decide +kernel
theorem dX12_high_18 : decode prog_14_method_56_code 18 = .ok (.if_icmp .eq 9, 3) := by decide +kernel
theorem dX12_high_21 : decode prog_14_method_56_code 21 = .ok (.iload_n 0, 1) := by decide +kernel
theorem dX12_high_22 : decode prog_14_method_56_code 22 = .ok (.bipush 7, 2) := by decide +kernel
theorem dX12_high_24 : decode prog_14_method_56_code 24 = .ok (.if_icmp .ne 8, 3) := by decide +kernel
theorem dX12_high_27 : decode prog_14_method_56_code 27 = .ok (.bipush 20, 2) := by decide +kernel
theorem dX12_high_29 : decode prog_14_method_56_code 29 = .ok (.goto 17, 3) := by decide +kernel
theorem dX12_high_32 : decode prog_14_method_56_code 32 = .ok (.iload_n 0, 1) := by decide +kernel
theorem dX12_high_33 : decode prog_14_method_56_code 33 = .ok (.bipush 9, 2) := by decide +kernel
theorem dX12_high_35 : decode prog_14_method_56_code 35 = .ok (.if_icmp .ne 9, 3) := by decide +kernel
theorem dX12_high_38 : decode prog_14_method_56_code 38 = .ok (.sipush 9999, 3) := by decide +kernel
theorem dX12_high_41 : decode prog_14_method_56_code 41 = .ok (.goto 5, 3) := by decide +kernel
theorem dX12_high_44 : decode prog_14_method_56_code 44 = .ok (.bipush 99, 2) := by decide +kernel
theorem dX12_high_46 : decode prog_14_method_56_code 46 = .ok (.ireturn, 1) := by decide +kernel
noncomputable def F_X12_high (v0 : Int) (M : bM) : Option (Int) :=
  if v0 < 3 then (some 999) else (if v0 = 4 then (some 999) else (if v0 = 3 then (some 20) else (if v0 = 7 then (some 20) else (if v0 = 9 then (some 9999) else (some 99)))))
theorem t_X12_high {l : Launch} {E : bE} {Q : Int → Prop} {v0 : Int} {M : bM} (h : b_wp (F_X12_high v0 M) (Q)) : V l E xX12_high (0, 0) 0 [(0, bI v0)] [] M (b_pIp M Q) := by
  unfold F_X12_high at h
  refine v_iload_n (f := 0) 0 rfl dX12_high_0 ?_
  refine v_iconst ⟨by decide, by decide⟩ dX12_high_1 ?_
  refine v_icmp_lt (tgt := 10) dX12_high_2 (by decide) (fun c1 => ?_) (fun c1 => ?_)
  · replace h := b_wp_t c1 h
    refine v_sipush ⟨by decide, by decide⟩ (by decide) dX12_high_10 ?_
    refine v_goto (tgt := 46) dX12_high_13 (by decide) ?_
    refine v_ireturn rfl dX12_high_46 ⟨by decide, by decide⟩ ?_
    exact ⟨_, rfl, rfl, h⟩
  · replace h := b_wp_f c1 h
    refine v_iload_n (f := 0) 0 rfl dX12_high_5 ?_
    refine v_iconst ⟨by decide, by decide⟩ dX12_high_6 ?_
    refine v_icmp_ne (tgt := 16) dX12_high_7 (by decide) (fun c2 => ?_) (fun c2 => ?_)
    · replace h := b_wp_f c2 h
      refine v_iload_n (f := 0) 0 rfl dX12_high_16 ?_
      refine v_iconst ⟨by decide, by decide⟩ dX12_high_17 ?_
      refine v_icmp_eq (tgt := 27) dX12_high_18 (by decide) (fun c3 => ?_) (fun c3 => ?_)
      · replace h := b_wp_t c3 h
        refine v_bipush ⟨by decide, by decide⟩ (by decide) dX12_high_27 ?_
        refine v_goto (tgt := 46) dX12_high_29 (by decide) ?_
        refine v_ireturn rfl dX12_high_46 ⟨by decide, by decide⟩ ?_
        exact ⟨_, rfl, rfl, h⟩
      · replace h := b_wp_f c3 h
        refine v_iload_n (f := 0) 0 rfl dX12_high_21 ?_
        refine v_bipush ⟨by decide, by decide⟩ (by decide) dX12_high_22 ?_
        refine v_icmp_ne (tgt := 32) dX12_high_24 (by decide) (fun c4 => ?_) (fun c4 => ?_)
        · replace h := b_wp_f c4 h
          refine v_iload_n (f := 0) 0 rfl dX12_high_32 ?_
          refine v_bipush ⟨by decide, by decide⟩ (by decide) dX12_high_33 ?_
          refine v_icmp_ne (tgt := 44) dX12_high_35 (by decide) (fun c5 => ?_) (fun c5 => ?_)
          · replace h := b_wp_f c5 h
            refine v_bipush ⟨by decide, by decide⟩ (by decide) dX12_high_44 ?_
            refine v_ireturn rfl dX12_high_46 ⟨by decide, by decide⟩ ?_
            exact ⟨_, rfl, rfl, h⟩
          · replace h := b_wp_t c5 h
            refine v_sipush ⟨by decide, by decide⟩ (by decide) dX12_high_38 ?_
            refine v_goto (tgt := 46) dX12_high_41 (by decide) ?_
            refine v_ireturn rfl dX12_high_46 ⟨by decide, by decide⟩ ?_
            exact ⟨_, rfl, rfl, h⟩
        · replace h := b_wp_t c4 h
          refine v_bipush ⟨by decide, by decide⟩ (by decide) dX12_high_27 ?_
          refine v_goto (tgt := 46) dX12_high_29 (by decide) ?_
          refine v_ireturn rfl dX12_high_46 ⟨by decide, by decide⟩ ?_
          exact ⟨_, rfl, rfl, h⟩
    · replace h := b_wp_t c2 h
      refine v_sipush ⟨by decide, by decide⟩ (by decide) dX12_high_10 ?_
      refine v_goto (tgt := 46) dX12_high_13 (by decide) ?_
      refine v_ireturn rfl dX12_high_46 ⟨by decide, by decide⟩ ?_
      exact ⟨_, rfl, rfl, h⟩
theorem c_X12_high {l : Launch} {E : bE} {M : bM} {v0 : Int} {Q : Int → Prop} (h : b_wp (F_X12_high v0 M) Q) : b_C l E xX12_high yX12_high [bI v0] M (b_pIp M Q) := b_met (by decide) ⟨rfl, rfl⟩ (Nat.le_of_ble_eq_true rfl) (fun _ _ => t_X12_high h)
abbrev xX12_addStep : bX := ("BurntHallModel", prog_14_method_57_code, 2, (Option.none : Option Jvm.ClassFile.FieldType), b_rm 1 0 0, 0, "addStep")
abbrev yX12_addStep : MethodName := ⟨"BurntHallModel", "addStep", "(I)V"⟩
theorem dX12_addStep_0 : decode prog_14_method_57_code 0 = .ok (.aload_n 0, 1) := by decide +kernel
theorem dX12_addStep_1 : decode prog_14_method_57_code 1 = .ok (.getfield 94, 3) := by decide +kernel
theorem dX12_addStep_4 : decode prog_14_method_57_code 4 = .ok (.bipush 100, 2) := by decide +kernel
theorem dX12_addStep_6 : decode prog_14_method_57_code 6 = .ok (.aload_n 0, 1) := by decide +kernel
theorem dX12_addStep_7 : decode prog_14_method_57_code 7 = .ok (.getfield 442, 3) := by decide +kernel
theorem dX12_addStep_10 : decode prog_14_method_57_code 10 = .ok (.imul, 1) := by decide +kernel
theorem dX12_addStep_11 : decode prog_14_method_57_code 11 = .ok (.aload_n 0, 1) := by decide +kernel
theorem dX12_addStep_12 : decode prog_14_method_57_code 12 = .ok (.getfield 91, 3) := by decide +kernel
theorem dX12_addStep_15 : decode prog_14_method_57_code 15 = .ok (.aload_n 0, 1) := by decide +kernel
theorem dX12_addStep_16 : decode prog_14_method_57_code 16 = .ok (.getfield 442, 3) := by decide +kernel
theorem dX12_addStep_19 : decode prog_14_method_57_code 19 = .ok (.iaload, 1) := by decide +kernel
theorem dX12_addStep_20 : decode prog_14_method_57_code 20 = .ok (.iadd, 1) := by decide +kernel
theorem dX12_addStep_21 : decode prog_14_method_57_code 21 = .ok (.iload_n 1, 1) := by decide +kernel
theorem dX12_addStep_22 : decode prog_14_method_57_code 22 = .ok (.iastore, 1) := by decide +kernel
theorem dX12_addStep_23 : decode prog_14_method_57_code 23 = .ok (.aload_n 0, 1) := by decide +kernel
theorem dX12_addStep_24 : decode prog_14_method_57_code 24 = .ok (.getfield 91, 3) := by decide +kernel
theorem dX12_addStep_27 : decode prog_14_method_57_code 27 = .ok (.aload_n 0, 1) := by decide +kernel
theorem dX12_addStep_28 : decode prog_14_method_57_code 28 = .ok (.getfield 442, 3) := by decide +kernel
theorem dX12_addStep_31 : decode prog_14_method_57_code 31 = .ok (.dup2, 1) := by decide +kernel
theorem dX12_addStep_32 : decode prog_14_method_57_code 32 = .ok (.iaload, 1) := by decide +kernel
theorem dX12_addStep_33 : decode prog_14_method_57_code 33 = .ok (.iconst 1, 1) := by decide +kernel
theorem dX12_addStep_34 : decode prog_14_method_57_code 34 = .ok (.iadd, 1) := by decide +kernel
theorem dX12_addStep_35 : decode prog_14_method_57_code 35 = .ok (.iastore, 1) := by decide +kernel
theorem dX12_addStep_36 : decode prog_14_method_57_code 36 = .ok (.return_, 1) := by decide +kernel
noncomputable def F_X12_addStep (v1 : Int) (M : bM) : Option (bM) :=
  b_g (b_i32 (100 * (M 11 48)) ∧ (0 ≤ (M 11 48) ∧ (M 11 48) < 216) ∧ b_i32 ((100 * (M 11 48)) + (M 187 (M 11 48))) ∧ (0 ≤ ((100 * (M 11 48)) + (M 187 (M 11 48))) ∧ ((100 * (M 11 48)) + (M 187 (M 11 48))) < 21600)) (b_let (b_up M 188 ((100 * (M 11 48)) + (M 187 (M 11 48))) v1) (fun M5 => b_g ((0 ≤ (M5 11 48) ∧ (M5 11 48) < 216) ∧ b_i32 ((M5 187 (M5 11 48)) + 1)) (b_let (b_up M5 187 (M5 11 48) ((M5 187 (M5 11 48)) + 1)) (fun M8 => some M8))))
theorem t_X12_addStep {l : Launch} {E : bE} {Q : bM → Prop} {v1 : Int} {M : bM} (h : b_wp (F_X12_addStep v1 M) (Q)) : V l E xX12_addStep (0, 0) 0 [(0, bR 11), (1, bI v1)] [] M (b_pV Q) := by
  unfold F_X12_addStep at h
  obtain ⟨⟨g1, g2, g3, g4⟩, h⟩ := b_wp_g h
  refine v_aload_n (f := 0) 0 rfl dX12_addStep_0 ?_
  refine v_getR (kf := 42) (kz := 42) rfl kd_11 rfl ⟨by decide, by decide⟩ rfl wf_12_94 dX12_addStep_1 ?_
  refine v_bipush ⟨by decide, by decide⟩ (by decide) dX12_addStep_4 ?_
  refine v_aload_n (f := 0) 0 rfl dX12_addStep_6 ?_
  refine v_getI (kf := 48) (kz := 48) rfl kd_11 rfl ⟨by decide, by decide⟩ rfl wf_12_442 dX12_addStep_7 ?_
  refine v_imulN g1 dX12_addStep_10 ?_
  refine v_aload_n (f := 0) 0 rfl dX12_addStep_11 ?_
  refine v_getR (kf := 41) (kz := 41) rfl kd_11 rfl ⟨by decide, by decide⟩ rfl wf_12_91 dX12_addStep_12 ?_
  refine v_aload_n (f := 0) 0 rfl dX12_addStep_15 ?_
  refine v_getI (kf := 48) (kz := 48) rfl kd_11 rfl ⟨by decide, by decide⟩ rfl wf_12_442 dX12_addStep_16 ?_
  refine v_iaload kd_187 g2 (by decide) dX12_addStep_19 ?_
  refine v_iaddN g3 dX12_addStep_20 ?_
  refine v_iload_n (f := 1) 1 rfl dX12_addStep_21 ?_
  refine v_iastore kd_188 g4 (by decide) dX12_addStep_22 ?_
  replace h := b_wp_l h
  obtain ⟨⟨g6, g7⟩, h⟩ := b_wp_g h
  refine v_aload_n (f := 0) 0 rfl dX12_addStep_23 ?_
  refine v_getR (kf := 41) (kz := 41) rfl kd_11 rfl ⟨by decide, by decide⟩ rfl wf_12_91 dX12_addStep_24 ?_
  refine v_aload_n (f := 0) 0 rfl dX12_addStep_27 ?_
  refine v_getI (kf := 48) (kz := 48) rfl kd_11 rfl ⟨by decide, by decide⟩ rfl wf_12_442 dX12_addStep_28 ?_
  refine v_dup2 rfl rfl dX12_addStep_31 ?_
  refine v_iaload kd_187 g6 (by decide) dX12_addStep_32 ?_
  refine v_iconst ⟨by decide, by decide⟩ dX12_addStep_33 ?_
  refine v_iaddN g7 dX12_addStep_34 ?_
  refine v_iastore kd_187 g6 (by decide) dX12_addStep_35 ?_
  replace h := b_wp_l h
  refine v_return rfl dX12_addStep_36 ⟨by decide, by decide⟩ ?_
  exact ⟨rfl, h⟩
theorem c_X12_addStep {l : Launch} {E : bE} {M : bM} {v1 : Int} {Q : bM → Prop} (h : b_wp (F_X12_addStep v1 M) Q) : b_C l E xX12_addStep yX12_addStep [bR 11, bI v1] M (b_pV Q) := b_met (by decide) ⟨rfl, rfl⟩ (Nat.le_of_ble_eq_true rfl) (fun _ _ => t_X12_addStep h)
abbrev xX12_isTerm : bX := ("BurntHallModel", prog_14_method_58_code, 1, (Option.some Jvm.ClassFile.FieldType.boolean), b_rm 2 0 0, 0, "isTerm")
abbrev yX12_isTerm : MethodName := ⟨"BurntHallModel", "isTerm", "()Z"⟩
theorem dX12_isTerm_0 : decode prog_14_method_58_code 0 = .ok (.aload_n 0, 1) := by decide +kernel
theorem dX12_isTerm_1 : decode prog_14_method_58_code 1 = .ok (.getfield 316, 3) := by decide +kernel
theorem dX12_isTerm_4 : decode prog_14_method_58_code 4 = .ok (.iconst 2, 1) := by decide +kernel
theorem dX12_isTerm_5 : decode prog_14_method_58_code 5 = .ok (.if_icmp .eq 25, 3) := by decide +kernel
theorem dX12_isTerm_8 : decode prog_14_method_58_code 8 = .ok (.aload_n 0, 1) := by decide +kernel
theorem dX12_isTerm_9 : decode prog_14_method_58_code 9 = .ok (.getfield 316, 3) := by decide +kernel
theorem dX12_isTerm_12 : decode prog_14_method_58_code 12 = .ok (.iconst 1, 1) := by decide +kernel
theorem dX12_isTerm_13 : decode prog_14_method_58_code 13 = .ok (.if_icmp .ne 21, 3) := by decide +kernel
theorem dX12_isTerm_16 : decode prog_14_method_58_code 16 = .ok (.aload_n 0, 1) := by decide +kernel
theorem dX12_isTerm_17 : decode prog_14_method_58_code 17 = .ok (.getfield 313, 3) := by decide +kernel
theorem dX12_isTerm_20 : decode prog_14_method_58_code 20 = .ok (.bipush 18, 2) := by decide +kernel
theorem dX12_isTerm_22 : decode prog_14_method_58_code 22 = .ok (.bipush 24, 2) := by decide +kernel
theorem dX12_isTerm_24 : decode prog_14_method_58_code 24 = .ok (.invokestatic 279, 3) := by decide +kernel
theorem dX12_isTerm_27 : decode prog_14_method_58_code 27 = .ok (.ifCond .ne 7, 3) := by decide +kernel
theorem dX12_isTerm_30 : decode prog_14_method_58_code 30 = .ok (.iconst 1, 1) := by decide +kernel
theorem dX12_isTerm_31 : decode prog_14_method_58_code 31 = .ok (.goto 4, 3) := by decide +kernel
theorem dX12_isTerm_34 : decode prog_14_method_58_code 34 = .ok (.iconst 0, 1) := by decide +kernel
theorem dX12_isTerm_35 : decode prog_14_method_58_code 35 = .ok (.ireturn, 1) := by decide +kernel
noncomputable def F_X12_isTerm (M : bM) : Option (Int) :=
  if (M 11 3) = 2 then (some 1) else (if (M 11 3) = 1 then (b_bind (F_X12_in (M 11 4) 18 24 M) (fun x3 => if x3 = 0 then (some 1) else (some 0))) else (some 0))
theorem t_X12_isTerm {l : Launch} {E : bE} {Q : Int → Prop} {M : bM} (h : b_wp (F_X12_isTerm M) (Q)) : V l E xX12_isTerm (0, 0) 0 [(0, bR 11)] [] M (b_pIp M Q) := by
  unfold F_X12_isTerm at h
  refine v_aload_n (f := 0) 0 rfl dX12_isTerm_0 ?_
  refine v_getI (kf := 3) (kz := 3) rfl kd_11 rfl ⟨by decide, by decide⟩ rfl wf_12_316 dX12_isTerm_1 ?_
  refine v_iconst ⟨by decide, by decide⟩ dX12_isTerm_4 ?_
  refine v_icmp_eq (tgt := 30) dX12_isTerm_5 (by decide) (fun c1 => ?_) (fun c1 => ?_)
  · replace h := b_wp_t c1 h
    refine v_iconst ⟨by decide, by decide⟩ dX12_isTerm_30 ?_
    refine v_goto (tgt := 35) dX12_isTerm_31 (by decide) ?_
    refine v_zreturn rfl (Or.inr rfl) dX12_isTerm_35 ⟨by decide, by decide⟩ ?_
    exact ⟨_, rfl, rfl, h⟩
  · replace h := b_wp_f c1 h
    refine v_aload_n (f := 0) 0 rfl dX12_isTerm_8 ?_
    refine v_getI (kf := 3) (kz := 3) rfl kd_11 rfl ⟨by decide, by decide⟩ rfl wf_12_316 dX12_isTerm_9 ?_
    refine v_iconst ⟨by decide, by decide⟩ dX12_isTerm_12 ?_
    refine v_icmp_ne (tgt := 34) dX12_isTerm_13 (by decide) (fun c2 => ?_) (fun c2 => ?_)
    · replace h := b_wp_f c2 h
      refine v_iconst ⟨by decide, by decide⟩ dX12_isTerm_34 ?_
      refine v_zreturn rfl (Or.inl rfl) dX12_isTerm_35 ⟨by decide, by decide⟩ ?_
      exact ⟨_, rfl, rfl, h⟩
    · replace h := b_wp_t c2 h
      refine v_aload_n (f := 0) 0 rfl dX12_isTerm_16 ?_
      refine v_getI (kf := 4) (kz := 4) rfl kd_11 rfl ⟨by decide, by decide⟩ rfl wf_12_313 dX12_isTerm_17 ?_
      refine v_bipush ⟨by decide, by decide⟩ (by decide) dX12_isTerm_20 ?_
      refine v_bipush ⟨by decide, by decide⟩ (by decide) dX12_isTerm_22 ?_
      refine v_cSIp (nA := 3) (As := [bI _, bI _, bI _]) (ix := 279) (c_X12_in (b_wp_b h)) rfl wc_X12_in wm_12_279 wi_X12_in wn_12 ⟨by decide, by decide, by decide⟩ rfl ⟨by decide, by decide⟩ ⟨by decide, by decide⟩ (Nat.le_of_ble_eq_true rfl) dX12_isTerm_24 (fun x3 h => ?_)
      refine v_if_ne (tgt := 34) dX12_isTerm_27 (by decide) (fun c4 => ?_) (fun c4 => ?_)
      · replace h := b_wp_f c4 h
        refine v_iconst ⟨by decide, by decide⟩ dX12_isTerm_34 ?_
        refine v_zreturn rfl (Or.inl rfl) dX12_isTerm_35 ⟨by decide, by decide⟩ ?_
        exact ⟨_, rfl, rfl, h⟩
      · replace h := b_wp_t c4 h
        refine v_iconst ⟨by decide, by decide⟩ dX12_isTerm_30 ?_
        refine v_goto (tgt := 35) dX12_isTerm_31 (by decide) ?_
        refine v_zreturn rfl (Or.inr rfl) dX12_isTerm_35 ⟨by decide, by decide⟩ ?_
        exact ⟨_, rfl, rfl, h⟩
theorem c_X12_isTerm {l : Launch} {E : bE} {M : bM} {Q : Int → Prop} (h : b_wp (F_X12_isTerm M) Q) : b_C l E xX12_isTerm yX12_isTerm [bR 11] M (b_pIp M Q) := b_met (by decide) ⟨rfl, rfl⟩ (Nat.le_of_ble_eq_true rfl) (fun _ _ => t_X12_isTerm h)
abbrev xX12_readSum : bX := ("BurntHallModel", prog_14_method_59_code, 2, (Option.some Jvm.ClassFile.FieldType.boolean), b_rm 8 0 0, 0, "readSum")
abbrev yX12_readSum : MethodName := ⟨"BurntHallModel", "readSum", "(I)Z"⟩
theorem dX12_readSum_0 : decode prog_14_method_59_code 0 = .ok (.aload_n 0, 1) := by decide +kernel
theorem dX12_readSum_1 : decode prog_14_method_59_code 1 = .ok (.iconst 0, 1) := by decide +kernel
theorem dX12_readSum_2 : decode prog_14_method_59_code 2 = .ok (.putfield 392, 3) := by decide +kernel
theorem dX12_readSum_5 : decode prog_14_method_59_code 5 = .ok (.aload_n 0, 1) := by decide +kernel
theorem dX12_readSum_6 : decode prog_14_method_59_code 6 = .ok (.invokevirtual 445, 3) := by decide +kernel
theorem dX12_readSum_9 : decode prog_14_method_59_code 9 = .ok (.ifCond .ne 9, 3) := by decide +kernel
theorem dX12_readSum_12 : decode prog_14_method_59_code 12 = .ok (.aload_n 0, 1) := by decide +kernel
theorem dX12_readSum_13 : decode prog_14_method_59_code 13 = .ok (.iconst 1, 1) := by decide +kernel
theorem dX12_readSum_14 : decode prog_14_method_59_code 14 = .ok (.invokevirtual 389, 3) := by decide +kernel
theorem dX12_readSum_17 : decode prog_14_method_59_code 17 = .ok (.ireturn, 1) := by decide +kernel
theorem dX12_readSum_18 : decode prog_14_method_59_code 18 = .ok (.aload_n 0, 1) := by decide +kernel
theorem dX12_readSum_19 : decode prog_14_method_59_code 19 = .ok (.getfield 392, 3) := by decide +kernel
theorem dX12_readSum_22 : decode prog_14_method_59_code 22 = .ok (.iconst 3, 1) := by decide +kernel
theorem dX12_readSum_23 : decode prog_14_method_59_code 23 = .ok (.if_icmp .ne 9, 3) := by decide +kernel
theorem dX12_readSum_26 : decode prog_14_method_59_code 26 = .ok (.aload_n 0, 1) := by decide +kernel
theorem dX12_readSum_27 : decode prog_14_method_59_code 27 = .ok (.iconst 4, 1) := by decide +kernel
theorem dX12_readSum_28 : decode prog_14_method_59_code 28 = .ok (.invokevirtual 389, 3) := by decide +kernel
theorem dX12_readSum_31 : decode prog_14_method_59_code 31 = .ok (.ireturn, 1) := by decide +kernel
theorem dX12_readSum_32 : decode prog_14_method_59_code 32 = .ok (.aload_n 0, 1) := by decide +kernel
theorem dX12_readSum_33 : decode prog_14_method_59_code 33 = .ok (.getfield 106, 3) := by decide +kernel
theorem dX12_readSum_36 : decode prog_14_method_59_code 36 = .ok (.iload_n 1, 1) := by decide +kernel
theorem dX12_readSum_37 : decode prog_14_method_59_code 37 = .ok (.aload_n 0, 1) := by decide +kernel
theorem dX12_readSum_38 : decode prog_14_method_59_code 38 = .ok (.getfield 392, 3) := by decide +kernel
theorem dX12_readSum_41 : decode prog_14_method_59_code 41 = .ok (.iadd, 1) := by decide +kernel
theorem dX12_readSum_42 : decode prog_14_method_59_code 42 = .ok (.aload_n 0, 1) := by decide +kernel
theorem dX12_readSum_43 : decode prog_14_method_59_code 43 = .ok (.getfield 316, 3) := by decide +kernel
theorem dX12_readSum_46 : decode prog_14_method_59_code 46 = .ok (.iconst 2, 1) := by decide +kernel
theorem dX12_readSum_47 : decode prog_14_method_59_code 47 = .ok (.if_icmp .ne 7, 3) := by decide +kernel
theorem dX12_readSum_50 : decode prog_14_method_59_code 50 = .ok (.lconst 0, 1) := by decide +kernel
theorem dX12_readSum_51 : decode prog_14_method_59_code 51 = .ok (.goto 7, 3) := by decide +kernel
theorem dX12_readSum_54 : decode prog_14_method_59_code 54 = .ok (.aload_n 0, 1) := by decide +kernel
theorem dX12_readSum_55 : decode prog_14_method_59_code 55 = .ok (.getfield 323, 3) := by decide +kernel
theorem dX12_readSum_58 : decode prog_14_method_59_code 58 = .ok (.lastore, 1) := by decide +kernel
theorem dX12_readSum_59 : decode prog_14_method_59_code 59 = .ok (.aload_n 0, 1) := by decide +kernel
theorem dX12_readSum_60 : decode prog_14_method_59_code 60 = .ok (.getfield 109, 3) := by decide +kernel
theorem dX12_readSum_63 : decode prog_14_method_59_code 63 = .ok (.iload_n 1, 1) := by decide +kernel
theorem dX12_readSum_64 : decode prog_14_method_59_code 64 = .ok (.aload_n 0, 1) := by decide +kernel
theorem dX12_readSum_65 : decode prog_14_method_59_code 65 = .ok (.getfield 392, 3) := by decide +kernel
theorem dX12_readSum_68 : decode prog_14_method_59_code 68 = .ok (.iadd, 1) := by decide +kernel
theorem dX12_readSum_69 : decode prog_14_method_59_code 69 = .ok (.aload_n 0, 1) := by decide +kernel
theorem dX12_readSum_70 : decode prog_14_method_59_code 70 = .ok (.getfield 316, 3) := by decide +kernel
theorem dX12_readSum_73 : decode prog_14_method_59_code 73 = .ok (.iconst 2, 1) := by decide +kernel
theorem dX12_readSum_74 : decode prog_14_method_59_code 74 = .ok (.if_icmp .ne 10, 3) := by decide +kernel
theorem dX12_readSum_77 : decode prog_14_method_59_code 77 = .ok (.aload_n 0, 1) := by decide +kernel
theorem dX12_readSum_78 : decode prog_14_method_59_code 78 = .ok (.getfield 338, 3) := by decide +kernel
theorem dX12_readSum_81 : decode prog_14_method_59_code 81 = .ok (.goto 4, 3) := by decide +kernel
theorem dX12_readSum_84 : decode prog_14_method_59_code 84 = .ok (.iconst 0, 1) := by decide +kernel
theorem dX12_readSum_85 : decode prog_14_method_59_code 85 = .ok (.iastore, 1) := by decide +kernel
theorem dX12_readSum_86 : decode prog_14_method_59_code 86 = .ok (.aload_n 0, 1) := by decide +kernel
theorem dX12_readSum_87 : decode prog_14_method_59_code 87 = .ok (.dup, 1) := by decide +kernel
theorem dX12_readSum_88 : decode prog_14_method_59_code 88 = .ok (.getfield 392, 3) := by decide +kernel
theorem dX12_readSum_91 : decode prog_14_method_59_code 91 = .ok (.iconst 1, 1) := by decide +kernel
theorem dX12_readSum_92 : decode prog_14_method_59_code 92 = .ok (.iadd, 1) := by decide +kernel
theorem dX12_readSum_93 : decode prog_14_method_59_code 93 = .ok (.putfield 392, 3) := by decide +kernel
theorem dX12_readSum_96 : decode prog_14_method_59_code 96 = .ok (.aload_n 0, 1) := by decide +kernel
theorem dX12_readSum_97 : decode prog_14_method_59_code 97 = .ok (.invokevirtual 292, 3) := by decide +kernel
theorem dX12_readSum_100 : decode prog_14_method_59_code 100 = .ok (.aload_n 0, 1) := by decide +kernel
theorem dX12_readSum_101 : decode prog_14_method_59_code 101 = .ok (.getfield 316, 3) := by decide +kernel
theorem dX12_readSum_104 : decode prog_14_method_59_code 104 = .ok (.bipush 7, 2) := by decide +kernel
theorem dX12_readSum_106 : decode prog_14_method_59_code 106 = .ok (.if_icmp .eq 5, 3) := by decide +kernel
theorem dX12_readSum_109 : decode prog_14_method_59_code 109 = .ok (.iconst 1, 1) := by decide +kernel
theorem dX12_readSum_110 : decode prog_14_method_59_code 110 = .ok (.ireturn, 1) := by decide +kernel
theorem dX12_readSum_111 : decode prog_14_method_59_code 111 = .ok (.aload_n 0, 1) := by decide +kernel
theorem dX12_readSum_112 : decode prog_14_method_59_code 112 = .ok (.invokevirtual 292, 3) := by decide +kernel
theorem dX12_readSum_115 : decode prog_14_method_59_code 115 = .ok (.goto (-110), 3) := by decide +kernel
abbrev A_X12_readSum_5 (l : Launch) (E : bE) (Q : (Int × bM) → Prop) (v1 : Int) : (bM) → Prop := (fun t : bM => V l E xX12_readSum (0, 0) 5 [(0, bR 11), (1, bI v1)] [] t (b_pI Q))
abbrev X_X12_readSum_5 (l : Launch) (E : bE) (Q : (Int × bM) → Prop) (v1 : Int) : (Int × bM) → Prop := Q
noncomputable def F_X12_readSum_b85 (v1 : Int) (u1 : Int) (u2 : Int) (M : bM) : Option ((bM) ⊕ (Int × bM)) :=
  b_g (0 ≤ u1 ∧ u1 < 15552) (b_let (b_up M 193 u1 u2) (fun M12 => b_g (b_i32 ((M12 11 32) + 1)) (b_let (b_up M12 11 32 ((M12 11 32) + 1)) (fun M14 => b_bind (F_X12_scan M14) (fun M15 => if (M15 11 3) = 7 then (b_bind (F_X12_scan M15) (fun M17 => some (.inl (M17)))) else (some (.inr (1, M15))))))))
theorem t_X12_readSum_b85 {l : Launch} {E : bE} {Q : (Int × bM) → Prop} {v1 : Int} {u1 : Int} {u2 : Int} {M : bM} (hfg : b_fg E) (h : b_wp (F_X12_readSum_b85 v1 u1 u2 M) (Sum.elim (A_X12_readSum_5 l E Q v1) (X_X12_readSum_5 l E Q v1))) : V l E xX12_readSum (0, 0) 85 [(0, bR 11), (1, bI v1)] [bI u2, bI u1, bR 193] M (b_pI Q) := by
  unfold F_X12_readSum_b85 at h
  obtain ⟨g11, h⟩ := b_wp_g h
  refine v_iastore kd_193 g11 (by decide) dX12_readSum_85 ?_
  replace h := b_wp_l h
  obtain ⟨g13, h⟩ := b_wp_g h
  refine v_aload_n (f := 0) 0 rfl dX12_readSum_86 ?_
  refine v_dup rfl dX12_readSum_87 ?_
  refine v_getI (kf := 32) (kz := 32) rfl kd_11 rfl ⟨by decide, by decide⟩ rfl wf_12_392 dX12_readSum_88 ?_
  refine v_iconst ⟨by decide, by decide⟩ dX12_readSum_91 ?_
  refine v_iaddN g13 dX12_readSum_92 ?_
  refine v_putI (kf := 32) (kz := 32) rfl kd_11 rfl ⟨by decide, by decide⟩ rfl wf_12_392 rfl rfl dX12_readSum_93 ?_
  replace h := b_wp_l h
  refine v_aload_n (f := 0) 0 rfl dX12_readSum_96 ?_
  refine v_cVV (nA := 0) (As := []) (ix := 292) (c_X12_scan hfg (b_wp_b h)) rfl kd_11 rfl rfl wc_X12_scan wm_12_292 wi_X12_scan ws_X12_scan wn_12 ⟨by decide, by decide, by decide⟩ rfl ⟨by decide, by decide⟩ ⟨by decide, by decide⟩ (Nat.le_of_ble_eq_true rfl) dX12_readSum_97 (fun M15 h => ?_)
  refine v_aload_n (f := 0) 0 rfl dX12_readSum_100 ?_
  refine v_getI (kf := 3) (kz := 3) rfl kd_11 rfl ⟨by decide, by decide⟩ rfl wf_12_316 dX12_readSum_101 ?_
  refine v_bipush ⟨by decide, by decide⟩ (by decide) dX12_readSum_104 ?_
  refine v_icmp_eq (tgt := 111) dX12_readSum_106 (by decide) (fun c16 => ?_) (fun c16 => ?_)
  · replace h := b_wp_t c16 h
    refine v_aload_n (f := 0) 0 rfl dX12_readSum_111 ?_
    refine v_cVV (nA := 0) (As := []) (ix := 292) (c_X12_scan hfg (b_wp_b h)) rfl kd_11 rfl rfl wc_X12_scan wm_12_292 wi_X12_scan ws_X12_scan wn_12 ⟨by decide, by decide, by decide⟩ rfl ⟨by decide, by decide⟩ ⟨by decide, by decide⟩ (Nat.le_of_ble_eq_true rfl) dX12_readSum_112 (fun M17 h => ?_)
    refine v_goto (tgt := 5) dX12_readSum_115 (by decide) ?_
    exact h
  · replace h := b_wp_f c16 h
    refine v_iconst ⟨by decide, by decide⟩ dX12_readSum_109 ?_
    refine v_zreturn rfl (Or.inr rfl) dX12_readSum_110 ⟨by decide, by decide⟩ ?_
    exact ⟨_, rfl, h⟩
noncomputable def F_X12_readSum_b58 (v1 : Int) (u1 : Int) (u2 : Int) (M : bM) : Option ((bM) ⊕ (Int × bM)) :=
  b_g (0 ≤ u1 ∧ u1 < 15552) (b_let (b_up M 192 u1 u2) (fun M8 => b_g (b_i32 (v1 + (M8 11 32))) (if (M8 11 3) = 2 then (F_X12_readSum_b85 v1 (v1 + (M8 11 32)) (M8 11 7) M8) else (F_X12_readSum_b85 v1 (v1 + (M8 11 32)) 0 M8))))
theorem t_X12_readSum_b58 {l : Launch} {E : bE} {Q : (Int × bM) → Prop} {v1 : Int} {u1 : Int} {u2 : Int} {M : bM} (hfg : b_fg E) (h : b_wp (F_X12_readSum_b58 v1 u1 u2 M) (Sum.elim (A_X12_readSum_5 l E Q v1) (X_X12_readSum_5 l E Q v1))) : V l E xX12_readSum (0, 0) 58 [(0, bR 11), (1, bI v1)] [bJ u2, bI u1, bR 192] M (b_pI Q) := by
  unfold F_X12_readSum_b58 at h
  obtain ⟨g7, h⟩ := b_wp_g h
  refine v_lastore kd_192 g7 (by decide) dX12_readSum_58 ?_
  replace h := b_wp_l h
  obtain ⟨g9, h⟩ := b_wp_g h
  refine v_aload_n (f := 0) 0 rfl dX12_readSum_59 ?_
  refine v_getR (kf := 47) (kz := 47) rfl kd_11 rfl ⟨by decide, by decide⟩ rfl wf_12_109 dX12_readSum_60 ?_
  refine v_iload_n (f := 1) 1 rfl dX12_readSum_63 ?_
  refine v_aload_n (f := 0) 0 rfl dX12_readSum_64 ?_
  refine v_getI (kf := 32) (kz := 32) rfl kd_11 rfl ⟨by decide, by decide⟩ rfl wf_12_392 dX12_readSum_65 ?_
  refine v_iaddN g9 dX12_readSum_68 ?_
  refine v_aload_n (f := 0) 0 rfl dX12_readSum_69 ?_
  refine v_getI (kf := 3) (kz := 3) rfl kd_11 rfl ⟨by decide, by decide⟩ rfl wf_12_316 dX12_readSum_70 ?_
  refine v_iconst ⟨by decide, by decide⟩ dX12_readSum_73 ?_
  refine v_icmp_ne (tgt := 84) dX12_readSum_74 (by decide) (fun c10 => ?_) (fun c10 => ?_)
  · replace h := b_wp_f c10 h
    refine v_iconst ⟨by decide, by decide⟩ dX12_readSum_84 ?_
    exact t_X12_readSum_b85 hfg h
  · replace h := b_wp_t c10 h
    refine v_aload_n (f := 0) 0 rfl dX12_readSum_77 ?_
    refine v_getI (kf := 7) (kz := 7) rfl kd_11 rfl ⟨by decide, by decide⟩ rfl wf_12_338 dX12_readSum_78 ?_
    refine v_goto (tgt := 85) dX12_readSum_81 (by decide) ?_
    exact t_X12_readSum_b85 hfg h
noncomputable def F_X12_readSum_s5 (v1 : Int) (M : bM) : Option ((bM) ⊕ (Int × bM)) :=
  b_bind (F_X12_isTerm M) (fun x2 => if x2 = 0 then (b_bind (F_X12_wrong 1 M) (fun t => b_two t (fun x21 M22 => b_g (x21 = 0 ∨ x21 = 1) (some (.inr (x21, M22)))))) else (if (M 11 32) = 3 then (b_bind (F_X12_wrong 4 M) (fun t => b_two t (fun x18 M19 => b_g (x18 = 0 ∨ x18 = 1) (some (.inr (x18, M19)))))) else (b_g (b_i32 (v1 + (M 11 32))) (if (M 11 3) = 2 then (F_X12_readSum_b58 v1 (v1 + (M 11 32)) 0 M) else (F_X12_readSum_b58 v1 (v1 + (M 11 32)) (M 11 10) M)))))
theorem t_X12_readSum_s5 {l : Launch} {E : bE} {Q : (Int × bM) → Prop} {v1 : Int} {M : bM} (hfg : b_fg E) (h : b_wp (F_X12_readSum_s5 v1 M) (Sum.elim (A_X12_readSum_5 l E Q v1) (X_X12_readSum_5 l E Q v1))) : V l E xX12_readSum (0, 0) 5 [(0, bR 11), (1, bI v1)] [] M (b_pI Q) := by
  unfold F_X12_readSum_s5 at h
  refine v_aload_n (f := 0) 0 rfl dX12_readSum_5 ?_
  refine v_cVIp (nA := 0) (As := []) (ix := 445) (c_X12_isTerm (b_wp_b h)) rfl kd_11 rfl rfl wc_X12_isTerm wm_12_445 wi_X12_isTerm ws_X12_isTerm wn_12 ⟨by decide, by decide, by decide⟩ rfl ⟨by decide, by decide⟩ ⟨by decide, by decide⟩ (Nat.le_of_ble_eq_true rfl) dX12_readSum_6 (fun x2 h => ?_)
  refine v_if_ne (tgt := 18) dX12_readSum_9 (by decide) (fun c3 => ?_) (fun c3 => ?_)
  · replace h := b_wp_f c3 h
    refine v_aload_n (f := 0) 0 rfl dX12_readSum_18 ?_
    refine v_getI (kf := 32) (kz := 32) rfl kd_11 rfl ⟨by decide, by decide⟩ rfl wf_12_392 dX12_readSum_19 ?_
    refine v_iconst ⟨by decide, by decide⟩ dX12_readSum_22 ?_
    refine v_icmp_ne (tgt := 32) dX12_readSum_23 (by decide) (fun c4 => ?_) (fun c4 => ?_)
    · replace h := b_wp_f c4 h
      obtain ⟨g5, h⟩ := b_wp_g h
      refine v_aload_n (f := 0) 0 rfl dX12_readSum_32 ?_
      refine v_getR (kf := 46) (kz := 46) rfl kd_11 rfl ⟨by decide, by decide⟩ rfl wf_12_106 dX12_readSum_33 ?_
      refine v_iload_n (f := 1) 1 rfl dX12_readSum_36 ?_
      refine v_aload_n (f := 0) 0 rfl dX12_readSum_37 ?_
      refine v_getI (kf := 32) (kz := 32) rfl kd_11 rfl ⟨by decide, by decide⟩ rfl wf_12_392 dX12_readSum_38 ?_
      refine v_iaddN g5 dX12_readSum_41 ?_
      refine v_aload_n (f := 0) 0 rfl dX12_readSum_42 ?_
      refine v_getI (kf := 3) (kz := 3) rfl kd_11 rfl ⟨by decide, by decide⟩ rfl wf_12_316 dX12_readSum_43 ?_
      refine v_iconst ⟨by decide, by decide⟩ dX12_readSum_46 ?_
      refine v_icmp_ne (tgt := 54) dX12_readSum_47 (by decide) (fun c6 => ?_) (fun c6 => ?_)
      · replace h := b_wp_f c6 h
        refine v_aload_n (f := 0) 0 rfl dX12_readSum_54 ?_
        refine v_getJ (kf := 10) (kz := 10) rfl kd_11 rfl ⟨by decide, by decide⟩ rfl wf_12_323 dX12_readSum_55 ?_
        exact t_X12_readSum_b58 hfg h
      · replace h := b_wp_t c6 h
        refine v_lconst0 dX12_readSum_50 ?_
        refine v_goto (tgt := 58) dX12_readSum_51 (by decide) ?_
        exact t_X12_readSum_b58 hfg h
    · replace h := b_wp_t c4 h
      refine v_aload_n (f := 0) 0 rfl dX12_readSum_26 ?_
      refine v_iconst ⟨by decide, by decide⟩ dX12_readSum_27 ?_
      refine v_cVI (nA := 1) (As := [bI _]) (ix := 389) (c_X12_wrong (b_wp_b h)) rfl kd_11 rfl rfl wc_X12_wrong wm_12_389 wi_X12_wrong ws_X12_wrong wn_12 ⟨by decide, by decide, by decide⟩ rfl ⟨by decide, by decide⟩ ⟨by decide, by decide⟩ (Nat.le_of_ble_eq_true rfl) dX12_readSum_28 (fun x18 M19 h => ?_)
      replace h := b_wp_two h
      obtain ⟨g20, h⟩ := b_wp_g h
      refine v_zreturn rfl g20 dX12_readSum_31 ⟨by decide, by decide⟩ ?_
      exact ⟨_, rfl, h⟩
  · replace h := b_wp_t c3 h
    refine v_aload_n (f := 0) 0 rfl dX12_readSum_12 ?_
    refine v_iconst ⟨by decide, by decide⟩ dX12_readSum_13 ?_
    refine v_cVI (nA := 1) (As := [bI _]) (ix := 389) (c_X12_wrong (b_wp_b h)) rfl kd_11 rfl rfl wc_X12_wrong wm_12_389 wi_X12_wrong ws_X12_wrong wn_12 ⟨by decide, by decide, by decide⟩ rfl ⟨by decide, by decide⟩ ⟨by decide, by decide⟩ (Nat.le_of_ble_eq_true rfl) dX12_readSum_14 (fun x21 M22 h => ?_)
    replace h := b_wp_two h
    obtain ⟨g23, h⟩ := b_wp_g h
    refine v_zreturn rfl g23 dX12_readSum_17 ⟨by decide, by decide⟩ ?_
    exact ⟨_, rfl, h⟩
theorem l_X12_readSum_5 {l : Launch} {E : bE} {Q : (Int × bM) → Prop} {v1 : Int} (hfg : b_fg E) {s : bM} (h : b_wp (b_loop (fun t => F_X12_readSum_s5 v1 t) s) (X_X12_readSum_5 l E Q v1)) : A_X12_readSum_5 l E Q v1 s := b_loop_wp (fun t h => t_X12_readSum_s5 hfg h) s h
noncomputable def F_X12_readSum (v1 : Int) (M : bM) : Option (Int × bM) :=
  b_let (b_up M 11 32 0) (fun M1 => b_loop (fun t => F_X12_readSum_s5 v1 t) (M1))
theorem t_X12_readSum {l : Launch} {E : bE} {Q : (Int × bM) → Prop} {v1 : Int} {M : bM} (hfg : b_fg E) (h : b_wp (F_X12_readSum v1 M) (Q)) : V l E xX12_readSum (0, 0) 0 [(0, bR 11), (1, bI v1)] [] M (b_pI Q) := by
  unfold F_X12_readSum at h
  refine v_aload_n (f := 0) 0 rfl dX12_readSum_0 ?_
  refine v_iconst ⟨by decide, by decide⟩ dX12_readSum_1 ?_
  refine v_putI (kf := 32) (kz := 32) rfl kd_11 rfl ⟨by decide, by decide⟩ rfl wf_12_392 rfl rfl dX12_readSum_2 ?_
  replace h := b_wp_l h
  exact l_X12_readSum_5 hfg h
theorem c_X12_readSum {l : Launch} {E : bE} {M : bM} {v1 : Int} (hfg : b_fg E) {Q : (Int × bM) → Prop} (h : b_wp (F_X12_readSum v1 M) Q) : b_C l E xX12_readSum yX12_readSum [bR 11, bI v1] M (b_pI Q) := b_met (by decide) ⟨rfl, rfl⟩ (Nat.le_of_ble_eq_true rfl) (fun _ _ => t_X12_readSum hfg h)
abbrev xX12_readTest : bX := ("BurntHallModel", prog_14_method_60_code, 2, (Option.some Jvm.ClassFile.FieldType.boolean), b_rm 9 0 0, 0, "readTest")
abbrev yX12_readTest : MethodName := ⟨"BurntHallModel", "readTest", "()Z"⟩
theorem dX12_readTest_0 : decode prog_14_method_60_code 0 = .ok (.aload_n 0, 1) := by decide +kernel
theorem dX12_readTest_1 : decode prog_14_method_60_code 1 = .ok (.invokevirtual 445, 3) := by decide +kernel
theorem dX12_readTest_4 : decode prog_14_method_60_code 4 = .ok (.ifCond .ne 9, 3) := by decide +kernel
theorem dX12_readTest_7 : decode prog_14_method_60_code 7 = .ok (.aload_n 0, 1) := by decide +kernel
theorem dX12_readTest_8 : decode prog_14_method_60_code 8 = .ok (.iconst 1, 1) := by decide +kernel
theorem dX12_readTest_9 : decode prog_14_method_60_code 9 = .ok (.invokevirtual 389, 3) := by decide +kernel
theorem dX12_readTest_12 : decode prog_14_method_60_code 12 = .ok (.ireturn, 1) := by decide +kernel
theorem dX12_readTest_13 : decode prog_14_method_60_code 13 = .ok (.aload_n 0, 1) := by decide +kernel
theorem dX12_readTest_14 : decode prog_14_method_60_code 14 = .ok (.getfield 88, 3) := by decide +kernel
theorem dX12_readTest_17 : decode prog_14_method_60_code 17 = .ok (.aload_n 0, 1) := by decide +kernel
theorem dX12_readTest_18 : decode prog_14_method_60_code 18 = .ok (.getfield 442, 3) := by decide +kernel
theorem dX12_readTest_21 : decode prog_14_method_60_code 21 = .ok (.iaload, 1) := by decide +kernel
theorem dX12_readTest_22 : decode prog_14_method_60_code 22 = .ok (.bipush 12, 2) := by decide +kernel
theorem dX12_readTest_24 : decode prog_14_method_60_code 24 = .ok (.if_icmp .ne 9, 3) := by decide +kernel
theorem dX12_readTest_27 : decode prog_14_method_60_code 27 = .ok (.aload_n 0, 1) := by decide +kernel
theorem dX12_readTest_28 : decode prog_14_method_60_code 28 = .ok (.iconst 4, 1) := by decide +kernel
theorem dX12_readTest_29 : decode prog_14_method_60_code 29 = .ok (.invokevirtual 389, 3) := by decide +kernel
theorem dX12_readTest_32 : decode prog_14_method_60_code 32 = .ok (.ireturn, 1) := by decide +kernel
theorem dX12_readTest_33 : decode prog_14_method_60_code 33 = .ok (.bipush 12, 2) := by decide +kernel
theorem dX12_readTest_35 : decode prog_14_method_60_code 35 = .ok (.aload_n 0, 1) := by decide +kernel
theorem dX12_readTest_36 : decode prog_14_method_60_code 36 = .ok (.getfield 442, 3) := by decide +kernel
theorem dX12_readTest_39 : decode prog_14_method_60_code 39 = .ok (.imul, 1) := by decide +kernel
theorem dX12_readTest_40 : decode prog_14_method_60_code 40 = .ok (.aload_n 0, 1) := by decide +kernel
theorem dX12_readTest_41 : decode prog_14_method_60_code 41 = .ok (.getfield 88, 3) := by decide +kernel
theorem dX12_readTest_44 : decode prog_14_method_60_code 44 = .ok (.aload_n 0, 1) := by decide +kernel
theorem dX12_readTest_45 : decode prog_14_method_60_code 45 = .ok (.getfield 442, 3) := by decide +kernel
theorem dX12_readTest_48 : decode prog_14_method_60_code 48 = .ok (.iaload, 1) := by decide +kernel
theorem dX12_readTest_49 : decode prog_14_method_60_code 49 = .ok (.iadd, 1) := by decide +kernel
theorem dX12_readTest_50 : decode prog_14_method_60_code 50 = .ok (.istore_n 1, 1) := by decide +kernel
theorem dX12_readTest_51 : decode prog_14_method_60_code 51 = .ok (.aload_n 0, 1) := by decide +kernel
theorem dX12_readTest_52 : decode prog_14_method_60_code 52 = .ok (.aload_n 0, 1) := by decide +kernel
theorem dX12_readTest_53 : decode prog_14_method_60_code 53 = .ok (.getfield 88, 3) := by decide +kernel
theorem dX12_readTest_56 : decode prog_14_method_60_code 56 = .ok (.aload_n 0, 1) := by decide +kernel
theorem dX12_readTest_57 : decode prog_14_method_60_code 57 = .ok (.getfield 442, 3) := by decide +kernel
theorem dX12_readTest_60 : decode prog_14_method_60_code 60 = .ok (.iaload, 1) := by decide +kernel
theorem dX12_readTest_61 : decode prog_14_method_60_code 61 = .ok (.invokevirtual 448, 3) := by decide +kernel
theorem dX12_readTest_64 : decode prog_14_method_60_code 64 = .ok (.aload_n 0, 1) := by decide +kernel
theorem dX12_readTest_65 : decode prog_14_method_60_code 65 = .ok (.getfield 88, 3) := by decide +kernel
theorem dX12_readTest_68 : decode prog_14_method_60_code 68 = .ok (.aload_n 0, 1) := by decide +kernel
theorem dX12_readTest_69 : decode prog_14_method_60_code 69 = .ok (.getfield 442, 3) := by decide +kernel
theorem dX12_readTest_72 : decode prog_14_method_60_code 72 = .ok (.dup2, 1) := by decide +kernel
theorem dX12_readTest_73 : decode prog_14_method_60_code 73 = .ok (.iaload, 1) := by decide +kernel
theorem dX12_readTest_74 : decode prog_14_method_60_code 74 = .ok (.iconst 1, 1) := by decide +kernel
theorem dX12_readTest_75 : decode prog_14_method_60_code 75 = .ok (.iadd, 1) := by decide +kernel
theorem dX12_readTest_76 : decode prog_14_method_60_code 76 = .ok (.iastore, 1) := by decide +kernel
theorem dX12_readTest_77 : decode prog_14_method_60_code 77 = .ok (.aload_n 0, 1) := by decide +kernel
theorem dX12_readTest_78 : decode prog_14_method_60_code 78 = .ok (.bipush 6, 2) := by decide +kernel
theorem dX12_readTest_80 : decode prog_14_method_60_code 80 = .ok (.iload_n 1, 1) := by decide +kernel
theorem dX12_readTest_81 : decode prog_14_method_60_code 81 = .ok (.imul, 1) := by decide +kernel
theorem dX12_readTest_82 : decode prog_14_method_60_code 82 = .ok (.invokevirtual 451, 3) := by decide +kernel
theorem dX12_readTest_85 : decode prog_14_method_60_code 85 = .ok (.ifCond .ne 5, 3) := by decide +kernel
theorem dX12_readTest_88 : decode prog_14_method_60_code 88 = .ok (.iconst 0, 1) := by decide +kernel
theorem dX12_readTest_89 : decode prog_14_method_60_code 89 = .ok (.ireturn, 1) := by decide +kernel
theorem dX12_readTest_90 : decode prog_14_method_60_code 90 = .ok (.aload_n 0, 1) := by decide +kernel
theorem dX12_readTest_91 : decode prog_14_method_60_code 91 = .ok (.getfield 100, 3) := by decide +kernel
theorem dX12_readTest_94 : decode prog_14_method_60_code 94 = .ok (.iload_n 1, 1) := by decide +kernel
theorem dX12_readTest_95 : decode prog_14_method_60_code 95 = .ok (.aload_n 0, 1) := by decide +kernel
theorem dX12_readTest_96 : decode prog_14_method_60_code 96 = .ok (.getfield 392, 3) := by decide +kernel
theorem dX12_readTest_99 : decode prog_14_method_60_code 99 = .ok (.iastore, 1) := by decide +kernel
theorem dX12_readTest_100 : decode prog_14_method_60_code 100 = .ok (.aload_n 0, 1) := by decide +kernel
theorem dX12_readTest_101 : decode prog_14_method_60_code 101 = .ok (.getfield 103, 3) := by decide +kernel
theorem dX12_readTest_104 : decode prog_14_method_60_code 104 = .ok (.iload_n 1, 1) := by decide +kernel
theorem dX12_readTest_105 : decode prog_14_method_60_code 105 = .ok (.iconst 0, 1) := by decide +kernel
theorem dX12_readTest_106 : decode prog_14_method_60_code 106 = .ok (.iastore, 1) := by decide +kernel
theorem dX12_readTest_107 : decode prog_14_method_60_code 107 = .ok (.aload_n 0, 1) := by decide +kernel
theorem dX12_readTest_108 : decode prog_14_method_60_code 108 = .ok (.getfield 97, 3) := by decide +kernel
theorem dX12_readTest_111 : decode prog_14_method_60_code 111 = .ok (.iload_n 1, 1) := by decide +kernel
theorem dX12_readTest_112 : decode prog_14_method_60_code 112 = .ok (.iconst 0, 1) := by decide +kernel
theorem dX12_readTest_113 : decode prog_14_method_60_code 113 = .ok (.iastore, 1) := by decide +kernel
theorem dX12_readTest_114 : decode prog_14_method_60_code 114 = .ok (.aload_n 0, 1) := by decide +kernel
theorem dX12_readTest_115 : decode prog_14_method_60_code 115 = .ok (.getfield 316, 3) := by decide +kernel
theorem dX12_readTest_118 : decode prog_14_method_60_code 118 = .ok (.iconst 1, 1) := by decide +kernel
theorem dX12_readTest_119 : decode prog_14_method_60_code 119 = .ok (.if_icmp .ne 17, 3) := by decide +kernel
theorem dX12_readTest_122 : decode prog_14_method_60_code 122 = .ok (.aload_n 0, 1) := by decide +kernel
theorem dX12_readTest_123 : decode prog_14_method_60_code 123 = .ok (.getfield 313, 3) := by decide +kernel
theorem dX12_readTest_126 : decode prog_14_method_60_code 126 = .ok (.bipush 21, 2) := by decide +kernel
theorem dX12_readTest_128 : decode prog_14_method_60_code 128 = .ok (.bipush 23, 2) := by decide +kernel
theorem dX12_readTest_130 : decode prog_14_method_60_code 130 = .ok (.invokestatic 279, 3) := by decide +kernel
theorem dX12_readTest_133 : decode prog_14_method_60_code 133 = .ok (.ifCond .ne 5, 3) := by decide +kernel
theorem dX12_readTest_136 : decode prog_14_method_60_code 136 = .ok (.iconst 1, 1) := by decide +kernel
theorem dX12_readTest_137 : decode prog_14_method_60_code 137 = .ok (.ireturn, 1) := by decide +kernel
theorem dX12_readTest_138 : decode prog_14_method_60_code 138 = .ok (.aload_n 0, 1) := by decide +kernel
theorem dX12_readTest_139 : decode prog_14_method_60_code 139 = .ok (.getfield 97, 3) := by decide +kernel
theorem dX12_readTest_142 : decode prog_14_method_60_code 142 = .ok (.iload_n 1, 1) := by decide +kernel
theorem dX12_readTest_143 : decode prog_14_method_60_code 143 = .ok (.aload_n 0, 1) := by decide +kernel
theorem dX12_readTest_144 : decode prog_14_method_60_code 144 = .ok (.getfield 313, 3) := by decide +kernel
theorem dX12_readTest_147 : decode prog_14_method_60_code 147 = .ok (.bipush 21, 2) := by decide +kernel
theorem dX12_readTest_149 : decode prog_14_method_60_code 149 = .ok (.isub, 1) := by decide +kernel
theorem dX12_readTest_150 : decode prog_14_method_60_code 150 = .ok (.iconst 1, 1) := by decide +kernel
theorem dX12_readTest_151 : decode prog_14_method_60_code 151 = .ok (.iadd, 1) := by decide +kernel
theorem dX12_readTest_152 : decode prog_14_method_60_code 152 = .ok (.iastore, 1) := by decide +kernel
theorem dX12_readTest_153 : decode prog_14_method_60_code 153 = .ok (.aload_n 0, 1) := by decide +kernel
theorem dX12_readTest_154 : decode prog_14_method_60_code 154 = .ok (.invokevirtual 292, 3) := by decide +kernel
theorem dX12_readTest_157 : decode prog_14_method_60_code 157 = .ok (.aload_n 0, 1) := by decide +kernel
theorem dX12_readTest_158 : decode prog_14_method_60_code 158 = .ok (.bipush 6, 2) := by decide +kernel
theorem dX12_readTest_160 : decode prog_14_method_60_code 160 = .ok (.iload_n 1, 1) := by decide +kernel
theorem dX12_readTest_161 : decode prog_14_method_60_code 161 = .ok (.imul, 1) := by decide +kernel
theorem dX12_readTest_162 : decode prog_14_method_60_code 162 = .ok (.iconst 3, 1) := by decide +kernel
theorem dX12_readTest_163 : decode prog_14_method_60_code 163 = .ok (.iadd, 1) := by decide +kernel
theorem dX12_readTest_164 : decode prog_14_method_60_code 164 = .ok (.invokevirtual 451, 3) := by decide +kernel
theorem dX12_readTest_167 : decode prog_14_method_60_code 167 = .ok (.ifCond .ne 5, 3) := by decide +kernel
theorem dX12_readTest_170 : decode prog_14_method_60_code 170 = .ok (.iconst 0, 1) := by decide +kernel
theorem dX12_readTest_171 : decode prog_14_method_60_code 171 = .ok (.ireturn, 1) := by decide +kernel
theorem dX12_readTest_172 : decode prog_14_method_60_code 172 = .ok (.aload_n 0, 1) := by decide +kernel
theorem dX12_readTest_173 : decode prog_14_method_60_code 173 = .ok (.getfield 103, 3) := by decide +kernel
theorem dX12_readTest_176 : decode prog_14_method_60_code 176 = .ok (.iload_n 1, 1) := by decide +kernel
theorem dX12_readTest_177 : decode prog_14_method_60_code 177 = .ok (.aload_n 0, 1) := by decide +kernel
theorem dX12_readTest_178 : decode prog_14_method_60_code 178 = .ok (.getfield 392, 3) := by decide +kernel
theorem dX12_readTest_181 : decode prog_14_method_60_code 181 = .ok (.iastore, 1) := by decide +kernel
theorem dX12_readTest_182 : decode prog_14_method_60_code 182 = .ok (.iconst 1, 1) := by decide +kernel
theorem dX12_readTest_183 : decode prog_14_method_60_code 183 = .ok (.ireturn, 1) := by decide +kernel
noncomputable def F_X12_readTest (M : bM) : Option (Int × bM) :=
  b_bind (F_X12_isTerm M) (fun x1 => if x1 = 0 then (b_bind (F_X12_wrong 1 M) (fun t => b_two t (fun x42 M43 => b_g (x42 = 0 ∨ x42 = 1) (some (x42, M43))))) else (b_g (0 ≤ (M 11 48) ∧ (M 11 48) < 216) (if (M 186 (M 11 48)) = 12 then (b_bind (F_X12_wrong 4 M) (fun t => b_two t (fun x39 M40 => b_g (x39 = 0 ∨ x39 = 1) (some (x39, M40))))) else (b_g (b_i32 (12 * (M 11 48)) ∧ (0 ≤ (M 11 48) ∧ (M 11 48) < 216) ∧ b_i32 ((12 * (M 11 48)) + (M 186 (M 11 48)))) (b_let (((12 * (M 11 48)) + (M 186 (M 11 48)))) (fun y8 => b_g (0 ≤ (M 11 48) ∧ (M 11 48) < 216) (b_bind (F_X12_addStep (M 186 (M 11 48)) M) (fun M10 => b_g ((0 ≤ (M10 11 48) ∧ (M10 11 48) < 216) ∧ b_i32 ((M10 186 (M10 11 48)) + 1)) (b_let (b_up M10 186 (M10 11 48) ((M10 186 (M10 11 48)) + 1)) (fun M13 => b_g (b_i32 (6 * y8)) (b_bind (F_X12_readSum (6 * y8) M13) (fun t => b_two t (fun x15 M16 => if x15 = 0 then (some (0, M16)) else (b_g (0 ≤ y8 ∧ y8 < 2592) (b_let (b_up M16 190 y8 (M16 11 32)) (fun M19 => b_g (0 ≤ y8 ∧ y8 < 2592) (b_let (b_up M19 191 y8 0) (fun M21 => b_g (0 ≤ y8 ∧ y8 < 2592) (b_let (b_up M21 189 y8 0) (fun M23 => if (M23 11 3) = 1 then (b_bind (F_X12_in (M23 11 4) 21 23 M23) (fun x25 => if x25 = 0 then (some (1, M23)) else (b_g (b_i32 ((M23 11 4) - 21) ∧ b_i32 (((M23 11 4) - 21) + 1) ∧ (0 ≤ y8 ∧ y8 < 2592)) (b_let (b_up M23 189 y8 (((M23 11 4) - 21) + 1)) (fun M30 => b_bind (F_X12_scan M30) (fun M31 => b_g (b_i32 (6 * y8) ∧ b_i32 ((6 * y8) + 3)) (b_bind (F_X12_readSum ((6 * y8) + 3) M31) (fun t => b_two t (fun x34 M35 => if x34 = 0 then (some (0, M35)) else (b_g (0 ≤ y8 ∧ y8 < 2592) (b_let (b_up M35 191 y8 (M35 11 32)) (fun M38 => some (1, M38))))))))))))) else (some (1, M23))))))))))))))))))))))
theorem t_X12_readTest {l : Launch} {E : bE} {Q : (Int × bM) → Prop} {M : bM} (hfg : b_fg E) (h : b_wp (F_X12_readTest M) (Q)) : V l E xX12_readTest (0, 0) 0 [(0, bR 11)] [] M (b_pI Q) := by
  unfold F_X12_readTest at h
  refine v_aload_n (f := 0) 0 rfl dX12_readTest_0 ?_
  refine v_cVIp (nA := 0) (As := []) (ix := 445) (c_X12_isTerm (b_wp_b h)) rfl kd_11 rfl rfl wc_X12_isTerm wm_12_445 wi_X12_isTerm ws_X12_isTerm wn_12 ⟨by decide, by decide, by decide⟩ rfl ⟨by decide, by decide⟩ ⟨by decide, by decide⟩ (Nat.le_of_ble_eq_true rfl) dX12_readTest_1 (fun x1 h => ?_)
  refine v_if_ne (tgt := 13) dX12_readTest_4 (by decide) (fun c2 => ?_) (fun c2 => ?_)
  · replace h := b_wp_f c2 h
    obtain ⟨g3, h⟩ := b_wp_g h
    refine v_aload_n (f := 0) 0 rfl dX12_readTest_13 ?_
    refine v_getR (kf := 40) (kz := 40) rfl kd_11 rfl ⟨by decide, by decide⟩ rfl wf_12_88 dX12_readTest_14 ?_
    refine v_aload_n (f := 0) 0 rfl dX12_readTest_17 ?_
    refine v_getI (kf := 48) (kz := 48) rfl kd_11 rfl ⟨by decide, by decide⟩ rfl wf_12_442 dX12_readTest_18 ?_
    refine v_iaload kd_186 g3 (by decide) dX12_readTest_21 ?_
    refine v_bipush ⟨by decide, by decide⟩ (by decide) dX12_readTest_22 ?_
    refine v_icmp_ne (tgt := 33) dX12_readTest_24 (by decide) (fun c4 => ?_) (fun c4 => ?_)
    · replace h := b_wp_f c4 h
      obtain ⟨⟨g5, g6, g7⟩, h⟩ := b_wp_g h
      refine v_bipush ⟨by decide, by decide⟩ (by decide) dX12_readTest_33 ?_
      refine v_aload_n (f := 0) 0 rfl dX12_readTest_35 ?_
      refine v_getI (kf := 48) (kz := 48) rfl kd_11 rfl ⟨by decide, by decide⟩ rfl wf_12_442 dX12_readTest_36 ?_
      refine v_imulN g5 dX12_readTest_39 ?_
      refine v_aload_n (f := 0) 0 rfl dX12_readTest_40 ?_
      refine v_getR (kf := 40) (kz := 40) rfl kd_11 rfl ⟨by decide, by decide⟩ rfl wf_12_88 dX12_readTest_41 ?_
      refine v_aload_n (f := 0) 0 rfl dX12_readTest_44 ?_
      refine v_getI (kf := 48) (kz := 48) rfl kd_11 rfl ⟨by decide, by decide⟩ rfl wf_12_442 dX12_readTest_45 ?_
      refine v_iaload kd_186 g6 (by decide) dX12_readTest_48 ?_
      refine v_iaddN g7 dX12_readTest_49 ?_
      replace h := b_wp_l h
      obtain ⟨g9, h⟩ := b_wp_g h
      refine v_istore_n (g := 1) (i := 1) (ls' := [(1, bI _), (0, bR _)]) rfl (by decide) dX12_readTest_50 rfl ?_
      refine v_aload_n (f := 0) 1 rfl dX12_readTest_51 ?_
      refine v_aload_n (f := 0) 1 rfl dX12_readTest_52 ?_
      refine v_getR (kf := 40) (kz := 40) rfl kd_11 rfl ⟨by decide, by decide⟩ rfl wf_12_88 dX12_readTest_53 ?_
      refine v_aload_n (f := 0) 1 rfl dX12_readTest_56 ?_
      refine v_getI (kf := 48) (kz := 48) rfl kd_11 rfl ⟨by decide, by decide⟩ rfl wf_12_442 dX12_readTest_57 ?_
      refine v_iaload kd_186 g9 (by decide) dX12_readTest_60 ?_
      refine v_cVV (nA := 1) (As := [bI _]) (ix := 448) (c_X12_addStep (b_wp_b h)) rfl kd_11 rfl rfl wc_X12_addStep wm_12_448 wi_X12_addStep ws_X12_addStep wn_12 ⟨by decide, by decide, by decide⟩ rfl ⟨by decide, by decide⟩ ⟨by decide, by decide⟩ (Nat.le_of_ble_eq_true rfl) dX12_readTest_61 (fun M10 h => ?_)
      obtain ⟨⟨g11, g12⟩, h⟩ := b_wp_g h
      refine v_aload_n (f := 0) 1 rfl dX12_readTest_64 ?_
      refine v_getR (kf := 40) (kz := 40) rfl kd_11 rfl ⟨by decide, by decide⟩ rfl wf_12_88 dX12_readTest_65 ?_
      refine v_aload_n (f := 0) 1 rfl dX12_readTest_68 ?_
      refine v_getI (kf := 48) (kz := 48) rfl kd_11 rfl ⟨by decide, by decide⟩ rfl wf_12_442 dX12_readTest_69 ?_
      refine v_dup2 rfl rfl dX12_readTest_72 ?_
      refine v_iaload kd_186 g11 (by decide) dX12_readTest_73 ?_
      refine v_iconst ⟨by decide, by decide⟩ dX12_readTest_74 ?_
      refine v_iaddN g12 dX12_readTest_75 ?_
      refine v_iastore kd_186 g11 (by decide) dX12_readTest_76 ?_
      replace h := b_wp_l h
      obtain ⟨g14, h⟩ := b_wp_g h
      refine v_aload_n (f := 0) 1 rfl dX12_readTest_77 ?_
      refine v_bipush ⟨by decide, by decide⟩ (by decide) dX12_readTest_78 ?_
      refine v_iload_n (f := 1) 0 rfl dX12_readTest_80 ?_
      refine v_imulN g14 dX12_readTest_81 ?_
      refine v_cVI (nA := 1) (As := [bI _]) (ix := 451) (c_X12_readSum hfg (b_wp_b h)) rfl kd_11 rfl rfl wc_X12_readSum wm_12_451 wi_X12_readSum ws_X12_readSum wn_12 ⟨by decide, by decide, by decide⟩ rfl ⟨by decide, by decide⟩ ⟨by decide, by decide⟩ (Nat.le_of_ble_eq_true rfl) dX12_readTest_82 (fun x15 M16 h => ?_)
      replace h := b_wp_two h
      refine v_if_ne (tgt := 90) dX12_readTest_85 (by decide) (fun c17 => ?_) (fun c17 => ?_)
      · replace h := b_wp_f c17 h
        obtain ⟨g18, h⟩ := b_wp_g h
        refine v_aload_n (f := 0) 1 rfl dX12_readTest_90 ?_
        refine v_getR (kf := 44) (kz := 44) rfl kd_11 rfl ⟨by decide, by decide⟩ rfl wf_12_100 dX12_readTest_91 ?_
        refine v_iload_n (f := 1) 0 rfl dX12_readTest_94 ?_
        refine v_aload_n (f := 0) 1 rfl dX12_readTest_95 ?_
        refine v_getI (kf := 32) (kz := 32) rfl kd_11 rfl ⟨by decide, by decide⟩ rfl wf_12_392 dX12_readTest_96 ?_
        refine v_iastore kd_190 g18 (by decide) dX12_readTest_99 ?_
        replace h := b_wp_l h
        obtain ⟨g20, h⟩ := b_wp_g h
        refine v_aload_n (f := 0) 1 rfl dX12_readTest_100 ?_
        refine v_getR (kf := 45) (kz := 45) rfl kd_11 rfl ⟨by decide, by decide⟩ rfl wf_12_103 dX12_readTest_101 ?_
        refine v_iload_n (f := 1) 0 rfl dX12_readTest_104 ?_
        refine v_iconst ⟨by decide, by decide⟩ dX12_readTest_105 ?_
        refine v_iastore kd_191 g20 (by decide) dX12_readTest_106 ?_
        replace h := b_wp_l h
        obtain ⟨g22, h⟩ := b_wp_g h
        refine v_aload_n (f := 0) 1 rfl dX12_readTest_107 ?_
        refine v_getR (kf := 43) (kz := 43) rfl kd_11 rfl ⟨by decide, by decide⟩ rfl wf_12_97 dX12_readTest_108 ?_
        refine v_iload_n (f := 1) 0 rfl dX12_readTest_111 ?_
        refine v_iconst ⟨by decide, by decide⟩ dX12_readTest_112 ?_
        refine v_iastore kd_189 g22 (by decide) dX12_readTest_113 ?_
        replace h := b_wp_l h
        refine v_aload_n (f := 0) 1 rfl dX12_readTest_114 ?_
        refine v_getI (kf := 3) (kz := 3) rfl kd_11 rfl ⟨by decide, by decide⟩ rfl wf_12_316 dX12_readTest_115 ?_
        refine v_iconst ⟨by decide, by decide⟩ dX12_readTest_118 ?_
        refine v_icmp_ne (tgt := 136) dX12_readTest_119 (by decide) (fun c24 => ?_) (fun c24 => ?_)
        · replace h := b_wp_f c24 h
          refine v_iconst ⟨by decide, by decide⟩ dX12_readTest_136 ?_
          refine v_zreturn rfl (Or.inr rfl) dX12_readTest_137 ⟨by decide, by decide⟩ ?_
          exact ⟨_, rfl, h⟩
        · replace h := b_wp_t c24 h
          refine v_aload_n (f := 0) 1 rfl dX12_readTest_122 ?_
          refine v_getI (kf := 4) (kz := 4) rfl kd_11 rfl ⟨by decide, by decide⟩ rfl wf_12_313 dX12_readTest_123 ?_
          refine v_bipush ⟨by decide, by decide⟩ (by decide) dX12_readTest_126 ?_
          refine v_bipush ⟨by decide, by decide⟩ (by decide) dX12_readTest_128 ?_
          refine v_cSIp (nA := 3) (As := [bI _, bI _, bI _]) (ix := 279) (c_X12_in (b_wp_b h)) rfl wc_X12_in wm_12_279 wi_X12_in wn_12 ⟨by decide, by decide, by decide⟩ rfl ⟨by decide, by decide⟩ ⟨by decide, by decide⟩ (Nat.le_of_ble_eq_true rfl) dX12_readTest_130 (fun x25 h => ?_)
          refine v_if_ne (tgt := 138) dX12_readTest_133 (by decide) (fun c26 => ?_) (fun c26 => ?_)
          · replace h := b_wp_f c26 h
            obtain ⟨⟨g27, g28, g29⟩, h⟩ := b_wp_g h
            refine v_aload_n (f := 0) 1 rfl dX12_readTest_138 ?_
            refine v_getR (kf := 43) (kz := 43) rfl kd_11 rfl ⟨by decide, by decide⟩ rfl wf_12_97 dX12_readTest_139 ?_
            refine v_iload_n (f := 1) 0 rfl dX12_readTest_142 ?_
            refine v_aload_n (f := 0) 1 rfl dX12_readTest_143 ?_
            refine v_getI (kf := 4) (kz := 4) rfl kd_11 rfl ⟨by decide, by decide⟩ rfl wf_12_313 dX12_readTest_144 ?_
            refine v_bipush ⟨by decide, by decide⟩ (by decide) dX12_readTest_147 ?_
            refine v_isubN g27 dX12_readTest_149 ?_
            refine v_iconst ⟨by decide, by decide⟩ dX12_readTest_150 ?_
            refine v_iaddN g28 dX12_readTest_151 ?_
            refine v_iastore kd_189 g29 (by decide) dX12_readTest_152 ?_
            replace h := b_wp_l h
            refine v_aload_n (f := 0) 1 rfl dX12_readTest_153 ?_
            refine v_cVV (nA := 0) (As := []) (ix := 292) (c_X12_scan hfg (b_wp_b h)) rfl kd_11 rfl rfl wc_X12_scan wm_12_292 wi_X12_scan ws_X12_scan wn_12 ⟨by decide, by decide, by decide⟩ rfl ⟨by decide, by decide⟩ ⟨by decide, by decide⟩ (Nat.le_of_ble_eq_true rfl) dX12_readTest_154 (fun M31 h => ?_)
            obtain ⟨⟨g32, g33⟩, h⟩ := b_wp_g h
            refine v_aload_n (f := 0) 1 rfl dX12_readTest_157 ?_
            refine v_bipush ⟨by decide, by decide⟩ (by decide) dX12_readTest_158 ?_
            refine v_iload_n (f := 1) 0 rfl dX12_readTest_160 ?_
            refine v_imulN g32 dX12_readTest_161 ?_
            refine v_iconst ⟨by decide, by decide⟩ dX12_readTest_162 ?_
            refine v_iaddN g33 dX12_readTest_163 ?_
            refine v_cVI (nA := 1) (As := [bI _]) (ix := 451) (c_X12_readSum hfg (b_wp_b h)) rfl kd_11 rfl rfl wc_X12_readSum wm_12_451 wi_X12_readSum ws_X12_readSum wn_12 ⟨by decide, by decide, by decide⟩ rfl ⟨by decide, by decide⟩ ⟨by decide, by decide⟩ (Nat.le_of_ble_eq_true rfl) dX12_readTest_164 (fun x34 M35 h => ?_)
            replace h := b_wp_two h
            refine v_if_ne (tgt := 172) dX12_readTest_167 (by decide) (fun c36 => ?_) (fun c36 => ?_)
            · replace h := b_wp_f c36 h
              obtain ⟨g37, h⟩ := b_wp_g h
              refine v_aload_n (f := 0) 1 rfl dX12_readTest_172 ?_
              refine v_getR (kf := 45) (kz := 45) rfl kd_11 rfl ⟨by decide, by decide⟩ rfl wf_12_103 dX12_readTest_173 ?_
              refine v_iload_n (f := 1) 0 rfl dX12_readTest_176 ?_
              refine v_aload_n (f := 0) 1 rfl dX12_readTest_177 ?_
              refine v_getI (kf := 32) (kz := 32) rfl kd_11 rfl ⟨by decide, by decide⟩ rfl wf_12_392 dX12_readTest_178 ?_
              refine v_iastore kd_191 g37 (by decide) dX12_readTest_181 ?_
              replace h := b_wp_l h
              refine v_iconst ⟨by decide, by decide⟩ dX12_readTest_182 ?_
              refine v_zreturn rfl (Or.inr rfl) dX12_readTest_183 ⟨by decide, by decide⟩ ?_
              exact ⟨_, rfl, h⟩
            · replace h := b_wp_t c36 h
              refine v_iconst ⟨by decide, by decide⟩ dX12_readTest_170 ?_
              refine v_zreturn rfl (Or.inl rfl) dX12_readTest_171 ⟨by decide, by decide⟩ ?_
              exact ⟨_, rfl, h⟩
          · replace h := b_wp_t c26 h
            refine v_iconst ⟨by decide, by decide⟩ dX12_readTest_136 ?_
            refine v_zreturn rfl (Or.inr rfl) dX12_readTest_137 ⟨by decide, by decide⟩ ?_
            exact ⟨_, rfl, h⟩
      · replace h := b_wp_t c17 h
        refine v_iconst ⟨by decide, by decide⟩ dX12_readTest_88 ?_
        refine v_zreturn rfl (Or.inl rfl) dX12_readTest_89 ⟨by decide, by decide⟩ ?_
        exact ⟨_, rfl, h⟩
    · replace h := b_wp_t c4 h
      refine v_aload_n (f := 0) 0 rfl dX12_readTest_27 ?_
      refine v_iconst ⟨by decide, by decide⟩ dX12_readTest_28 ?_
      refine v_cVI (nA := 1) (As := [bI _]) (ix := 389) (c_X12_wrong (b_wp_b h)) rfl kd_11 rfl rfl wc_X12_wrong wm_12_389 wi_X12_wrong ws_X12_wrong wn_12 ⟨by decide, by decide, by decide⟩ rfl ⟨by decide, by decide⟩ ⟨by decide, by decide⟩ (Nat.le_of_ble_eq_true rfl) dX12_readTest_29 (fun x39 M40 h => ?_)
      replace h := b_wp_two h
      obtain ⟨g41, h⟩ := b_wp_g h
      refine v_zreturn rfl g41 dX12_readTest_32 ⟨by decide, by decide⟩ ?_
      exact ⟨_, rfl, h⟩
  · replace h := b_wp_t c2 h
    refine v_aload_n (f := 0) 0 rfl dX12_readTest_7 ?_
    refine v_iconst ⟨by decide, by decide⟩ dX12_readTest_8 ?_
    refine v_cVI (nA := 1) (As := [bI _]) (ix := 389) (c_X12_wrong (b_wp_b h)) rfl kd_11 rfl rfl wc_X12_wrong wm_12_389 wi_X12_wrong ws_X12_wrong wn_12 ⟨by decide, by decide, by decide⟩ rfl ⟨by decide, by decide⟩ ⟨by decide, by decide⟩ (Nat.le_of_ble_eq_true rfl) dX12_readTest_9 (fun x42 M43 h => ?_)
    replace h := b_wp_two h
    obtain ⟨g44, h⟩ := b_wp_g h
    refine v_zreturn rfl g44 dX12_readTest_12 ⟨by decide, by decide⟩ ?_
    exact ⟨_, rfl, h⟩
theorem c_X12_readTest {l : Launch} {E : bE} {M : bM} (hfg : b_fg E) {Q : (Int × bM) → Prop} (h : b_wp (F_X12_readTest M) Q) : b_C l E xX12_readTest yX12_readTest [bR 11] M (b_pI Q) := b_met (by decide) ⟨rfl, rfl⟩ (Nat.le_of_ble_eq_true rfl) (fun _ _ => t_X12_readTest hfg h)
abbrev xX12_readNumber : bX := ("BurntHallModel", prog_14_method_64_code, 3, (Option.some Jvm.ClassFile.FieldType.boolean), b_rm 8 0 0, 0, "readNumber")
abbrev yX12_readNumber : MethodName := ⟨"BurntHallModel", "readNumber", "(II)Z"⟩
theorem dX12_readNumber_0 : decode prog_14_method_64_code 0 = .ok (.aload_n 0, 1) := by decide +kernel
theorem dX12_readNumber_1 : decode prog_14_method_64_code 1 = .ok (.getfield 316, 3) := by decide +kernel
theorem dX12_readNumber_4 : decode prog_14_method_64_code 4 = .ok (.iconst 2, 1) := by decide +kernel
theorem dX12_readNumber_5 : decode prog_14_method_64_code 5 = .ok (.if_icmp .eq 9, 3) := by decide +kernel
theorem dX12_readNumber_8 : decode prog_14_method_64_code 8 = .ok (.aload_n 0, 1) := by decide +kernel
theorem dX12_readNumber_9 : decode prog_14_method_64_code 9 = .ok (.iconst 1, 1) := by decide +kernel
theorem dX12_readNumber_10 : decode prog_14_method_64_code 10 = .ok (.invokevirtual 389, 3) := by decide +kernel
theorem dX12_readNumber_13 : decode prog_14_method_64_code 13 = .ok (.ireturn, 1) := by decide +kernel
theorem dX12_readNumber_14 : decode prog_14_method_64_code 14 = .ok (.aload_n 0, 1) := by decide +kernel
theorem dX12_readNumber_15 : decode prog_14_method_64_code 15 = .ok (.getfield 338, 3) := by decide +kernel
theorem dX12_readNumber_18 : decode prog_14_method_64_code 18 = .ok (.iload_n 1, 1) := by decide +kernel
theorem dX12_readNumber_19 : decode prog_14_method_64_code 19 = .ok (.iload_n 2, 1) := by decide +kernel
theorem dX12_readNumber_20 : decode prog_14_method_64_code 20 = .ok (.invokestatic 279, 3) := by decide +kernel
theorem dX12_readNumber_23 : decode prog_14_method_64_code 23 = .ok (.ifCond .ne 9, 3) := by decide +kernel
theorem dX12_readNumber_26 : decode prog_14_method_64_code 26 = .ok (.aload_n 0, 1) := by decide +kernel
theorem dX12_readNumber_27 : decode prog_14_method_64_code 27 = .ok (.iconst 2, 1) := by decide +kernel
theorem dX12_readNumber_28 : decode prog_14_method_64_code 28 = .ok (.invokevirtual 389, 3) := by decide +kernel
theorem dX12_readNumber_31 : decode prog_14_method_64_code 31 = .ok (.ireturn, 1) := by decide +kernel
theorem dX12_readNumber_32 : decode prog_14_method_64_code 32 = .ok (.aload_n 0, 1) := by decide +kernel
theorem dX12_readNumber_33 : decode prog_14_method_64_code 33 = .ok (.aload_n 0, 1) := by decide +kernel
theorem dX12_readNumber_34 : decode prog_14_method_64_code 34 = .ok (.getfield 338, 3) := by decide +kernel
theorem dX12_readNumber_37 : decode prog_14_method_64_code 37 = .ok (.putfield 392, 3) := by decide +kernel
theorem dX12_readNumber_40 : decode prog_14_method_64_code 40 = .ok (.aload_n 0, 1) := by decide +kernel
theorem dX12_readNumber_41 : decode prog_14_method_64_code 41 = .ok (.invokevirtual 292, 3) := by decide +kernel
theorem dX12_readNumber_44 : decode prog_14_method_64_code 44 = .ok (.iconst 1, 1) := by decide +kernel
theorem dX12_readNumber_45 : decode prog_14_method_64_code 45 = .ok (.ireturn, 1) := by decide +kernel
noncomputable def F_X12_readNumber (v1 : Int) (v2 : Int) (M : bM) : Option (Int × bM) :=
  if (M 11 3) = 2 then (b_bind (F_X12_in (M 11 7) v1 v2 M) (fun x2 => if x2 = 0 then (b_bind (F_X12_wrong 2 M) (fun t => b_two t (fun x6 M7 => b_g (x6 = 0 ∨ x6 = 1) (some (x6, M7))))) else (b_let (b_up M 11 32 (M 11 7)) (fun M4 => b_bind (F_X12_scan M4) (fun M5 => some (1, M5)))))) else (b_bind (F_X12_wrong 1 M) (fun t => b_two t (fun x9 M10 => b_g (x9 = 0 ∨ x9 = 1) (some (x9, M10)))))
theorem t_X12_readNumber {l : Launch} {E : bE} {Q : (Int × bM) → Prop} {v1 : Int} {v2 : Int} {M : bM} (hfg : b_fg E) (h : b_wp (F_X12_readNumber v1 v2 M) (Q)) : V l E xX12_readNumber (0, 0) 0 [(0, bR 11), (1, bI v1), (2, bI v2)] [] M (b_pI Q) := by
  unfold F_X12_readNumber at h
  refine v_aload_n (f := 0) 0 rfl dX12_readNumber_0 ?_
  refine v_getI (kf := 3) (kz := 3) rfl kd_11 rfl ⟨by decide, by decide⟩ rfl wf_12_316 dX12_readNumber_1 ?_
  refine v_iconst ⟨by decide, by decide⟩ dX12_readNumber_4 ?_
  refine v_icmp_eq (tgt := 14) dX12_readNumber_5 (by decide) (fun c1 => ?_) (fun c1 => ?_)
  · replace h := b_wp_t c1 h
    refine v_aload_n (f := 0) 0 rfl dX12_readNumber_14 ?_
    refine v_getI (kf := 7) (kz := 7) rfl kd_11 rfl ⟨by decide, by decide⟩ rfl wf_12_338 dX12_readNumber_15 ?_
    refine v_iload_n (f := 1) 1 rfl dX12_readNumber_18 ?_
    refine v_iload_n (f := 2) 2 rfl dX12_readNumber_19 ?_
    refine v_cSIp (nA := 3) (As := [bI _, bI _, bI _]) (ix := 279) (c_X12_in (b_wp_b h)) rfl wc_X12_in wm_12_279 wi_X12_in wn_12 ⟨by decide, by decide, by decide⟩ rfl ⟨by decide, by decide⟩ ⟨by decide, by decide⟩ (Nat.le_of_ble_eq_true rfl) dX12_readNumber_20 (fun x2 h => ?_)
    refine v_if_ne (tgt := 32) dX12_readNumber_23 (by decide) (fun c3 => ?_) (fun c3 => ?_)
    · replace h := b_wp_f c3 h
      refine v_aload_n (f := 0) 0 rfl dX12_readNumber_32 ?_
      refine v_aload_n (f := 0) 0 rfl dX12_readNumber_33 ?_
      refine v_getI (kf := 7) (kz := 7) rfl kd_11 rfl ⟨by decide, by decide⟩ rfl wf_12_338 dX12_readNumber_34 ?_
      refine v_putI (kf := 32) (kz := 32) rfl kd_11 rfl ⟨by decide, by decide⟩ rfl wf_12_392 rfl rfl dX12_readNumber_37 ?_
      replace h := b_wp_l h
      refine v_aload_n (f := 0) 0 rfl dX12_readNumber_40 ?_
      refine v_cVV (nA := 0) (As := []) (ix := 292) (c_X12_scan hfg (b_wp_b h)) rfl kd_11 rfl rfl wc_X12_scan wm_12_292 wi_X12_scan ws_X12_scan wn_12 ⟨by decide, by decide, by decide⟩ rfl ⟨by decide, by decide⟩ ⟨by decide, by decide⟩ (Nat.le_of_ble_eq_true rfl) dX12_readNumber_41 (fun M5 h => ?_)
      refine v_iconst ⟨by decide, by decide⟩ dX12_readNumber_44 ?_
      refine v_zreturn rfl (Or.inr rfl) dX12_readNumber_45 ⟨by decide, by decide⟩ ?_
      exact ⟨_, rfl, h⟩
    · replace h := b_wp_t c3 h
      refine v_aload_n (f := 0) 0 rfl dX12_readNumber_26 ?_
      refine v_iconst ⟨by decide, by decide⟩ dX12_readNumber_27 ?_
      refine v_cVI (nA := 1) (As := [bI _]) (ix := 389) (c_X12_wrong (b_wp_b h)) rfl kd_11 rfl rfl wc_X12_wrong wm_12_389 wi_X12_wrong ws_X12_wrong wn_12 ⟨by decide, by decide, by decide⟩ rfl ⟨by decide, by decide⟩ ⟨by decide, by decide⟩ (Nat.le_of_ble_eq_true rfl) dX12_readNumber_28 (fun x6 M7 h => ?_)
      replace h := b_wp_two h
      obtain ⟨g8, h⟩ := b_wp_g h
      refine v_zreturn rfl g8 dX12_readNumber_31 ⟨by decide, by decide⟩ ?_
      exact ⟨_, rfl, h⟩
  · replace h := b_wp_f c1 h
    refine v_aload_n (f := 0) 0 rfl dX12_readNumber_8 ?_
    refine v_iconst ⟨by decide, by decide⟩ dX12_readNumber_9 ?_
    refine v_cVI (nA := 1) (As := [bI _]) (ix := 389) (c_X12_wrong (b_wp_b h)) rfl kd_11 rfl rfl wc_X12_wrong wm_12_389 wi_X12_wrong ws_X12_wrong wn_12 ⟨by decide, by decide, by decide⟩ rfl ⟨by decide, by decide⟩ ⟨by decide, by decide⟩ (Nat.le_of_ble_eq_true rfl) dX12_readNumber_10 (fun x9 M10 h => ?_)
    replace h := b_wp_two h
    obtain ⟨g11, h⟩ := b_wp_g h
    refine v_zreturn rfl g11 dX12_readNumber_13 ⟨by decide, by decide⟩ ?_
    exact ⟨_, rfl, h⟩
theorem c_X12_readNumber {l : Launch} {E : bE} {M : bM} {v1 : Int} {v2 : Int} (hfg : b_fg E) {Q : (Int × bM) → Prop} (h : b_wp (F_X12_readNumber v1 v2 M) Q) : b_C l E xX12_readNumber yX12_readNumber [bR 11, bI v1, bI v2] M (b_pI Q) := b_met (by decide) ⟨rfl, rfl⟩ (Nat.le_of_ble_eq_true rfl) (fun _ _ => t_X12_readNumber hfg h)
abbrev xX12_actOn : bX := ("BurntHallModel", prog_14_method_68_code, 3, (Option.some Jvm.ClassFile.FieldType.int), b_rm 1 0 0, 0, "actOn")
abbrev yX12_actOn : MethodName := ⟨"BurntHallModel", "actOn", "(I)I"⟩
theorem dX12_actOn_0 : decode prog_14_method_68_code 0 = .ok (.aload_n 0, 1) := by decide +kernel
theorem dX12_actOn_1 : decode prog_14_method_68_code 1 = .ok (.getfield 487, 3) := by decide +kernel
theorem dX12_actOn_4 : decode prog_14_method_68_code 4 = .ok (.iconst 1, 1) := by decide +kernel
theorem dX12_actOn_5 : decode prog_14_method_68_code 5 = .ok (.isub, 1) := by decide +kernel
theorem dX12_actOn_6 : decode prog_14_method_68_code 6 = .ok (.istore_n 2, 1) := by decide +kernel
theorem dX12_actOn_7 : decode prog_14_method_68_code 7 = .ok (.iload_n 2, 1) := by decide +kernel
theorem dX12_actOn_8 : decode prog_14_method_68_code 8 = .ok (.ifCond .lt 19, 3) := by decide +kernel
theorem dX12_actOn_11 : decode prog_14_method_68_code 11 = .ok (.aload_n 0, 1) := by decide +kernel
theorem dX12_actOn_12 : decode prog_14_method_68_code 12 = .ok (.getfield 76, 3) := by decide +kernel
theorem dX12_actOn_15 : decode prog_14_method_68_code 15 = .ok (.iload_n 2, 1) := by decide +kernel
theorem dX12_actOn_16 : decode prog_14_method_68_code 16 = .ok (.iaload, 1) := by decide +kernel
theorem dX12_actOn_17 : decode prog_14_method_68_code 17 = .ok (.iload_n 1, 1) := by decide +kernel
theorem dX12_actOn_18 : decode prog_14_method_68_code 18 = .ok (.if_icmp .le 9, 3) := by decide +kernel
theorem dX12_actOn_21 : decode prog_14_method_68_code 21 = .ok (.iinc 2 (-1), 3) := by decide +kernel
theorem dX12_actOn_24 : decode prog_14_method_68_code 24 = .ok (.goto (-17), 3) := by decide +kernel
theorem dX12_actOn_27 : decode prog_14_method_68_code 27 = .ok (.iload_n 2, 1) := by decide +kernel
theorem dX12_actOn_28 : decode prog_14_method_68_code 28 = .ok (.ifCond .ge 8, 3) := by decide +kernel
theorem dX12_actOn_31 : decode prog_14_method_68_code 31 = .ok (.bipush 9, 2) := by decide +kernel
theorem dX12_actOn_33 : decode prog_14_method_68_code 33 = .ok (.goto 4, 3) := by decide +kernel
theorem dX12_actOn_36 : decode prog_14_method_68_code 36 = .ok (.iload_n 2, 1) := by decide +kernel
theorem dX12_actOn_37 : decode prog_14_method_68_code 37 = .ok (.ireturn, 1) := by decide +kernel
abbrev A_X12_actOn_7 (l : Launch) (E : bE) (Q : Int → Prop) (v1 : Int) (M : bM) : (Int) → Prop := (fun t : Int => V l E xX12_actOn (0, 0) 7 [(0, bR 11), (1, bI v1), (2, bI t)] [] M (b_pIp M Q))
abbrev X_X12_actOn_7 (l : Launch) (E : bE) (Q : Int → Prop) (v1 : Int) (M : bM) : (Int) → Prop := (fun t : Int => V l E xX12_actOn (0, 0) 27 [(2, bI t)] [] M (b_pIp M Q))
noncomputable def F_X12_actOn_s7 (v1 : Int) (v2 : Int) (M : bM) : Option ((Int) ⊕ (Int)) :=
  if v2 < 0 then (some (.inr (v2))) else (b_g (0 ≤ v2 ∧ v2 < 8) (if (M 182 v2) ≤ v1 then (some (.inr (v2))) else (b_g (b_i32 (v2 + (-1))) (some (.inl ((v2 + (-1))))))))
theorem t_X12_actOn_s7 {l : Launch} {E : bE} {Q : Int → Prop} {v1 : Int} {v2 : Int} {M : bM} (h : b_wp (F_X12_actOn_s7 v1 v2 M) (Sum.elim (A_X12_actOn_7 l E Q v1 M) (X_X12_actOn_7 l E Q v1 M))) : V l E xX12_actOn (0, 0) 7 [(0, bR 11), (1, bI v1), (2, bI v2)] [] M (b_pIp M Q) := by
  unfold F_X12_actOn_s7 at h
  refine v_iload_n (f := 2) 2 rfl dX12_actOn_7 ?_
  refine v_if_lt (tgt := 27) dX12_actOn_8 (by decide) (fun c3 => ?_) (fun c3 => ?_)
  · replace h := b_wp_t c3 h
    refine v_sub (ls2 := [(2, bI _)]) [2] rfl ?_
    exact h
  · replace h := b_wp_f c3 h
    obtain ⟨g4, h⟩ := b_wp_g h
    refine v_aload_n (f := 0) 0 rfl dX12_actOn_11 ?_
    refine v_getR (kf := 36) (kz := 36) rfl kd_11 rfl ⟨by decide, by decide⟩ rfl wf_12_76 dX12_actOn_12 ?_
    refine v_iload_n (f := 2) 2 rfl dX12_actOn_15 ?_
    refine v_iaload kd_182 g4 (by decide) dX12_actOn_16 ?_
    refine v_iload_n (f := 1) 1 rfl dX12_actOn_17 ?_
    refine v_icmp_le (tgt := 27) dX12_actOn_18 (by decide) (fun c5 => ?_) (fun c5 => ?_)
    · replace h := b_wp_t c5 h
      refine v_sub (ls2 := [(2, bI _)]) [2] rfl ?_
      exact h
    · replace h := b_wp_f c5 h
      obtain ⟨g6, h⟩ := b_wp_g h
      refine v_iincN (ls' := [(2, bI _), (0, bR _), (1, bI _)]) 2 rfl (by decide) g6 dX12_actOn_21 rfl ?_
      refine v_goto (tgt := 7) dX12_actOn_24 (by decide) ?_
      refine v_sub (ls2 := [(0, bR _), (1, bI _), (2, bI _)]) [1, 2, 0] rfl ?_
      exact h
theorem l_X12_actOn_7 {l : Launch} {E : bE} {Q : Int → Prop} {v1 : Int} {M : bM} {s : Int} (h : b_wp (b_loop (fun t => F_X12_actOn_s7 v1 t M) s) (X_X12_actOn_7 l E Q v1 M)) : A_X12_actOn_7 l E Q v1 M s := b_loop_wp (fun t h => t_X12_actOn_s7 h) s h
noncomputable def F_X12_actOn_b27 (v2 : Int) (M : bM) : Option (Int) :=
  if 0 ≤ v2 then (some v2) else (some 9)
theorem t_X12_actOn_b27 {l : Launch} {E : bE} {Q : Int → Prop} {v2 : Int} {M : bM} (h : b_wp (F_X12_actOn_b27 v2 M) (Q)) : V l E xX12_actOn (0, 0) 27 [(2, bI v2)] [] M (b_pIp M Q) := by
  unfold F_X12_actOn_b27 at h
  refine v_iload_n (f := 2) 0 rfl dX12_actOn_27 ?_
  refine v_if_ge (tgt := 36) dX12_actOn_28 (by decide) (fun c7 => ?_) (fun c7 => ?_)
  · replace h := b_wp_t c7 h
    refine v_iload_n (f := 2) 0 rfl dX12_actOn_36 ?_
    refine v_ireturn rfl dX12_actOn_37 ⟨by decide, by decide⟩ ?_
    exact ⟨_, rfl, rfl, h⟩
  · replace h := b_wp_f c7 h
    refine v_bipush ⟨by decide, by decide⟩ (by decide) dX12_actOn_31 ?_
    refine v_goto (tgt := 37) dX12_actOn_33 (by decide) ?_
    refine v_ireturn rfl dX12_actOn_37 ⟨by decide, by decide⟩ ?_
    exact ⟨_, rfl, rfl, h⟩
noncomputable def F_X12_actOn (v1 : Int) (M : bM) : Option (Int) :=
  b_g (b_i32 ((M 11 35) - 1)) (b_let (((M 11 35) - 1)) (fun y2 => b_bind (b_loop (fun t => F_X12_actOn_s7 v1 t M) (y2)) (fun t => F_X12_actOn_b27 t M)))
theorem t_X12_actOn {l : Launch} {E : bE} {Q : Int → Prop} {v1 : Int} {M : bM} (h : b_wp (F_X12_actOn v1 M) (Q)) : V l E xX12_actOn (0, 0) 0 [(0, bR 11), (1, bI v1)] [] M (b_pIp M Q) := by
  unfold F_X12_actOn at h
  obtain ⟨g1, h⟩ := b_wp_g h
  refine v_aload_n (f := 0) 0 rfl dX12_actOn_0 ?_
  refine v_getI (kf := 35) (kz := 35) rfl kd_11 rfl ⟨by decide, by decide⟩ rfl wf_12_487 dX12_actOn_1 ?_
  refine v_iconst ⟨by decide, by decide⟩ dX12_actOn_4 ?_
  refine v_isubN g1 dX12_actOn_5 ?_
  replace h := b_wp_l h
  refine v_istore_n (g := 2) (i := 2) (ls' := [(2, bI _), (0, bR _), (1, bI _)]) rfl (by decide) dX12_actOn_6 rfl ?_
  refine v_sub (ls2 := [(0, bR _), (1, bI _), (2, bI _)]) [1, 2, 0] rfl ?_
  refine l_X12_actOn_7 (b_wp_m (fun t h => ?_) (b_wp_b h))
  show V l E xX12_actOn (0, 0) 27 [(2, bI t)] [] M (b_pIp M Q)
  replace h : b_wp (F_X12_actOn_b27 t M) _ := h
  exact t_X12_actOn_b27 h
theorem c_X12_actOn {l : Launch} {E : bE} {M : bM} {v1 : Int} {Q : Int → Prop} (h : b_wp (F_X12_actOn v1 M) Q) : b_C l E xX12_actOn yX12_actOn [bR 11, bI v1] M (b_pIp M Q) := b_met (by decide) ⟨rfl, rfl⟩ (Nat.le_of_ble_eq_true rfl) (fun _ _ => t_X12_actOn h)
abbrev xX12_ruleOn : bX := ("BurntHallModel", prog_14_method_69_code, 3, (Option.some Jvm.ClassFile.FieldType.int), b_rm 2 0 0, 0, "ruleOn")
abbrev yX12_ruleOn : MethodName := ⟨"BurntHallModel", "ruleOn", "(II)I"⟩
theorem dX12_ruleOn_0 : decode prog_14_method_69_code 0 = .ok (.aload_n 0, 1) := by decide +kernel
theorem dX12_ruleOn_1 : decode prog_14_method_69_code 1 = .ok (.getfield 79, 3) := by decide +kernel
theorem dX12_ruleOn_4 : decode prog_14_method_69_code 4 = .ok (.bipush 11, 2) := by decide +kernel
theorem dX12_ruleOn_6 : decode prog_14_method_69_code 6 = .ok (.aload_n 0, 1) := by decide +kernel
theorem dX12_ruleOn_7 : decode prog_14_method_69_code 7 = .ok (.iload_n 1, 1) := by decide +kernel
theorem dX12_ruleOn_8 : decode prog_14_method_69_code 8 = .ok (.invokevirtual 490, 3) := by decide +kernel
theorem dX12_ruleOn_11 : decode prog_14_method_69_code 11 = .ok (.imul, 1) := by decide +kernel
theorem dX12_ruleOn_12 : decode prog_14_method_69_code 12 = .ok (.iload_n 2, 1) := by decide +kernel
theorem dX12_ruleOn_13 : decode prog_14_method_69_code 13 = .ok (.iadd, 1) := by decide +kernel
theorem dX12_ruleOn_14 : decode prog_14_method_69_code 14 = .ok (.iaload, 1) := by decide +kernel
theorem dX12_ruleOn_15 : decode prog_14_method_69_code 15 = .ok (.ireturn, 1) := by decide +kernel
noncomputable def F_X12_ruleOn (v1 : Int) (v2 : Int) (M : bM) : Option (Int) :=
  b_bind (F_X12_actOn v1 M) (fun x1 => b_g (b_i32 (11 * x1) ∧ b_i32 ((11 * x1) + v2) ∧ (0 ≤ ((11 * x1) + v2) ∧ ((11 * x1) + v2) < 110)) (some (M 183 ((11 * x1) + v2))))
theorem t_X12_ruleOn {l : Launch} {E : bE} {Q : Int → Prop} {v1 : Int} {v2 : Int} {M : bM} (h : b_wp (F_X12_ruleOn v1 v2 M) (Q)) : V l E xX12_ruleOn (0, 0) 0 [(0, bR 11), (1, bI v1), (2, bI v2)] [] M (b_pIp M Q) := by
  unfold F_X12_ruleOn at h
  refine v_aload_n (f := 0) 0 rfl dX12_ruleOn_0 ?_
  refine v_getR (kf := 37) (kz := 37) rfl kd_11 rfl ⟨by decide, by decide⟩ rfl wf_12_79 dX12_ruleOn_1 ?_
  refine v_bipush ⟨by decide, by decide⟩ (by decide) dX12_ruleOn_4 ?_
  refine v_aload_n (f := 0) 0 rfl dX12_ruleOn_6 ?_
  refine v_iload_n (f := 1) 1 rfl dX12_ruleOn_7 ?_
  refine v_cVIp (nA := 1) (As := [bI _]) (ix := 490) (c_X12_actOn (b_wp_b h)) rfl kd_11 rfl rfl wc_X12_actOn wm_12_490 wi_X12_actOn ws_X12_actOn wn_12 ⟨by decide, by decide, by decide⟩ rfl ⟨by decide, by decide⟩ ⟨by decide, by decide⟩ (Nat.le_of_ble_eq_true rfl) dX12_ruleOn_8 (fun x1 h => ?_)
  obtain ⟨⟨g2, g3, g4⟩, h⟩ := b_wp_g h
  refine v_imulN g2 dX12_ruleOn_11 ?_
  refine v_iload_n (f := 2) 2 rfl dX12_ruleOn_12 ?_
  refine v_iaddN g3 dX12_ruleOn_13 ?_
  refine v_iaload kd_183 g4 (by decide) dX12_ruleOn_14 ?_
  refine v_ireturn rfl dX12_ruleOn_15 ⟨by decide, by decide⟩ ?_
  exact ⟨_, rfl, rfl, h⟩
theorem c_X12_ruleOn {l : Launch} {E : bE} {M : bM} {v1 : Int} {v2 : Int} {Q : Int → Prop} (h : b_wp (F_X12_ruleOn v1 v2 M) Q) : b_C l E xX12_ruleOn yX12_ruleOn [bR 11, bI v1, bI v2] M (b_pIp M Q) := b_met (by decide) ⟨rfl, rfl⟩ (Nat.le_of_ble_eq_true rfl) (fun _ _ => t_X12_ruleOn h)
abbrev xX12_rule : bX := ("BurntHallModel", prog_14_method_70_code, 3, (Option.some Jvm.ClassFile.FieldType.int), b_rm 3 0 0, 0, "rule")
abbrev yX12_rule : MethodName := ⟨"BurntHallModel", "rule", "(II)I"⟩
theorem dX12_rule_0 : decode prog_14_method_70_code 0 = .ok (.iload_n 1, 1) := by decide +kernel
theorem dX12_rule_1 : decode prog_14_method_70_code 1 = .ok (.invokestatic 347, 3) := by decide +kernel
theorem dX12_rule_4 : decode prog_14_method_70_code 4 = .ok (.ifCond .eq 22, 3) := by decide +kernel
theorem dX12_rule_7 : decode prog_14_method_70_code 7 = .ok (.iload_n 2, 1) := by decide +kernel
theorem dX12_rule_8 : decode prog_14_method_70_code 8 = .ok (.iconst 0, 1) := by decide +kernel
theorem dX12_rule_9 : decode prog_14_method_70_code 9 = .ok (.bipush 10, 2) := by decide +kernel
theorem dX12_rule_11 : decode prog_14_method_70_code 11 = .ok (.invokestatic 279, 3) := by decide +kernel
theorem dX12_rule_14 : decode prog_14_method_70_code 14 = .ok (.ifCond .eq 12, 3) := by decide +kernel
theorem dX12_rule_17 : decode prog_14_method_70_code 17 = .ok (.aload_n 0, 1) := by decide +kernel
theorem dX12_rule_18 : decode prog_14_method_70_code 18 = .ok (.iload_n 1, 1) := by decide +kernel
theorem dX12_rule_19 : decode prog_14_method_70_code 19 = .ok (.iload_n 2, 1) := by decide +kernel
theorem dX12_rule_20 : decode prog_14_method_70_code 20 = .ok (.invokevirtual 493, 3) := by decide +kernel
theorem dX12_rule_23 : decode prog_14_method_70_code 23 = .ok (.goto 5, 3) := by decide +kernel
theorem dX12_rule_26 : decode prog_14_method_70_code 26 = .ok (.bipush (-9), 2) := by decide +kernel
theorem dX12_rule_28 : decode prog_14_method_70_code 28 = .ok (.ireturn, 1) := by decide +kernel
noncomputable def F_X12_rule (v1 : Int) (v2 : Int) (M : bM) : Option (Int) :=
  b_bind (F_X12_isDay v1 M) (fun x1 => if x1 = 0 then (some (-9)) else (b_bind (F_X12_in v2 0 10 M) (fun x3 => if x3 = 0 then (some (-9)) else (b_bind (F_X12_ruleOn v1 v2 M) (fun x5 => some x5)))))
theorem t_X12_rule {l : Launch} {E : bE} {Q : Int → Prop} {v1 : Int} {v2 : Int} {M : bM} (h : b_wp (F_X12_rule v1 v2 M) (Q)) : V l E xX12_rule (0, 0) 0 [(0, bR 11), (1, bI v1), (2, bI v2)] [] M (b_pIp M Q) := by
  unfold F_X12_rule at h
  refine v_iload_n (f := 1) 1 rfl dX12_rule_0 ?_
  refine v_cSIp (nA := 1) (As := [bI _]) (ix := 347) (c_X12_isDay (b_wp_b h)) rfl wc_X12_isDay wm_12_347 wi_X12_isDay wn_12 ⟨by decide, by decide, by decide⟩ rfl ⟨by decide, by decide⟩ ⟨by decide, by decide⟩ (Nat.le_of_ble_eq_true rfl) dX12_rule_1 (fun x1 h => ?_)
  refine v_if_eq (tgt := 26) dX12_rule_4 (by decide) (fun c2 => ?_) (fun c2 => ?_)
  · replace h := b_wp_t c2 h
    refine v_bipush ⟨by decide, by decide⟩ (by decide) dX12_rule_26 ?_
    refine v_ireturn rfl dX12_rule_28 ⟨by decide, by decide⟩ ?_
    exact ⟨_, rfl, rfl, h⟩
  · replace h := b_wp_f c2 h
    refine v_iload_n (f := 2) 2 rfl dX12_rule_7 ?_
    refine v_iconst ⟨by decide, by decide⟩ dX12_rule_8 ?_
    refine v_bipush ⟨by decide, by decide⟩ (by decide) dX12_rule_9 ?_
    refine v_cSIp (nA := 3) (As := [bI _, bI _, bI _]) (ix := 279) (c_X12_in (b_wp_b h)) rfl wc_X12_in wm_12_279 wi_X12_in wn_12 ⟨by decide, by decide, by decide⟩ rfl ⟨by decide, by decide⟩ ⟨by decide, by decide⟩ (Nat.le_of_ble_eq_true rfl) dX12_rule_11 (fun x3 h => ?_)
    refine v_if_eq (tgt := 26) dX12_rule_14 (by decide) (fun c4 => ?_) (fun c4 => ?_)
    · replace h := b_wp_t c4 h
      refine v_bipush ⟨by decide, by decide⟩ (by decide) dX12_rule_26 ?_
      refine v_ireturn rfl dX12_rule_28 ⟨by decide, by decide⟩ ?_
      exact ⟨_, rfl, rfl, h⟩
    · replace h := b_wp_f c4 h
      refine v_aload_n (f := 0) 0 rfl dX12_rule_17 ?_
      refine v_iload_n (f := 1) 1 rfl dX12_rule_18 ?_
      refine v_iload_n (f := 2) 2 rfl dX12_rule_19 ?_
      refine v_cVIp (nA := 2) (As := [bI _, bI _]) (ix := 493) (c_X12_ruleOn (b_wp_b h)) rfl kd_11 rfl rfl wc_X12_ruleOn wm_12_493 wi_X12_ruleOn ws_X12_ruleOn wn_12 ⟨by decide, by decide, by decide⟩ rfl ⟨by decide, by decide⟩ ⟨by decide, by decide⟩ (Nat.le_of_ble_eq_true rfl) dX12_rule_20 (fun x5 h => ?_)
      refine v_goto (tgt := 28) dX12_rule_23 (by decide) ?_
      refine v_ireturn rfl dX12_rule_28 ⟨by decide, by decide⟩ ?_
      exact ⟨_, rfl, rfl, h⟩
theorem c_X12_rule {l : Launch} {E : bE} {M : bM} {v1 : Int} {v2 : Int} {Q : Int → Prop} (h : b_wp (F_X12_rule v1 v2 M) Q) : b_C l E xX12_rule yX12_rule [bR 11, bI v1, bI v2] M (b_pIp M Q) := b_met (by decide) ⟨rfl, rfl⟩ (Nat.le_of_ble_eq_true rfl) (fun _ _ => t_X12_rule h)
abbrev xX12_readMarks : bX := ("BurntHallModel", prog_14_method_71_code, 3, (Option.some Jvm.ClassFile.FieldType.boolean), b_rm 8 0 0, 0, "readMarks")
abbrev yX12_readMarks : MethodName := ⟨"BurntHallModel", "readMarks", "()Z"⟩
theorem dX12_readMarks_0 : decode prog_14_method_71_code 0 = .ok (.aload_n 0, 1) := by decide +kernel
theorem dX12_readMarks_1 : decode prog_14_method_71_code 1 = .ok (.getfield 155, 3) := by decide +kernel
theorem dX12_readMarks_4 : decode prog_14_method_71_code 4 = .ok (.bipush 120, 2) := by decide +kernel
theorem dX12_readMarks_6 : decode prog_14_method_71_code 6 = .ok (.iconst 0, 1) := by decide +kernel
theorem dX12_readMarks_7 : decode prog_14_method_71_code 7 = .ok (.iastore, 1) := by decide +kernel
theorem dX12_readMarks_8 : decode prog_14_method_71_code 8 = .ok (.aload_n 0, 1) := by decide +kernel
theorem dX12_readMarks_9 : decode prog_14_method_71_code 9 = .ok (.getfield 316, 3) := by decide +kernel
theorem dX12_readMarks_12 : decode prog_14_method_71_code 12 = .ok (.bipush 8, 2) := by decide +kernel
theorem dX12_readMarks_14 : decode prog_14_method_71_code 14 = .ok (.if_icmp .eq 157, 3) := by decide +kernel
theorem dX12_readMarks_17 : decode prog_14_method_71_code 17 = .ok (.aload_n 0, 1) := by decide +kernel
theorem dX12_readMarks_18 : decode prog_14_method_71_code 18 = .ok (.getfield 155, 3) := by decide +kernel
theorem dX12_readMarks_21 : decode prog_14_method_71_code 21 = .ok (.bipush 120, 2) := by decide +kernel
theorem dX12_readMarks_23 : decode prog_14_method_71_code 23 = .ok (.iaload, 1) := by decide +kernel
theorem dX12_readMarks_24 : decode prog_14_method_71_code 24 = .ok (.istore_n 1, 1) := by decide +kernel
theorem dX12_readMarks_25 : decode prog_14_method_71_code 25 = .ok (.aload_n 0, 1) := by decide +kernel
theorem dX12_readMarks_26 : decode prog_14_method_71_code 26 = .ok (.getfield 316, 3) := by decide +kernel
theorem dX12_readMarks_29 : decode prog_14_method_71_code 29 = .ok (.iconst 1, 1) := by decide +kernel
theorem dX12_readMarks_30 : decode prog_14_method_71_code 30 = .ok (.if_icmp .ne 9, 3) := by decide +kernel
theorem dX12_readMarks_33 : decode prog_14_method_71_code 33 = .ok (.iload_n 1, 1) := by decide +kernel
theorem dX12_readMarks_34 : decode prog_14_method_71_code 34 = .ok (.bipush 12, 2) := by decide +kernel
theorem dX12_readMarks_36 : decode prog_14_method_71_code 36 = .ok (.if_icmp .ne 5, 3) := by decide +kernel
theorem dX12_readMarks_39 : decode prog_14_method_71_code 39 = .ok (.iconst 0, 1) := by decide +kernel
theorem dX12_readMarks_40 : decode prog_14_method_71_code 40 = .ok (.ireturn, 1) := by decide +kernel
theorem dX12_readMarks_41 : decode prog_14_method_71_code 41 = .ok (.iconst 0, 1) := by decide +kernel
theorem dX12_readMarks_42 : decode prog_14_method_71_code 42 = .ok (.istore_n 2, 1) := by decide +kernel
theorem dX12_readMarks_43 : decode prog_14_method_71_code 43 = .ok (.iload_n 2, 1) := by decide +kernel
theorem dX12_readMarks_44 : decode prog_14_method_71_code 44 = .ok (.iload_n 1, 1) := by decide +kernel
theorem dX12_readMarks_45 : decode prog_14_method_71_code 45 = .ok (.if_icmp .ge 29, 3) := by decide +kernel
theorem dX12_readMarks_48 : decode prog_14_method_71_code 48 = .ok (.aload_n 0, 1) := by decide +kernel
theorem dX12_readMarks_49 : decode prog_14_method_71_code 49 = .ok (.getfield 149, 3) := by decide +kernel
theorem dX12_readMarks_52 : decode prog_14_method_71_code 52 = .ok (.sipush 1440, 3) := by decide +kernel
theorem dX12_readMarks_55 : decode prog_14_method_71_code 55 = .ok (.iload_n 2, 1) := by decide +kernel
theorem dX12_readMarks_56 : decode prog_14_method_71_code 56 = .ok (.iadd, 1) := by decide +kernel
theorem dX12_readMarks_57 : decode prog_14_method_71_code 57 = .ok (.laload, 1) := by decide +kernel
theorem dX12_readMarks_58 : decode prog_14_method_71_code 58 = .ok (.aload_n 0, 1) := by decide +kernel
theorem dX12_readMarks_59 : decode prog_14_method_71_code 59 = .ok (.getfield 323, 3) := by decide +kernel
theorem dX12_readMarks_62 : decode prog_14_method_71_code 62 = .ok (.lcmp, 1) := by decide +kernel
theorem dX12_readMarks_63 : decode prog_14_method_71_code 63 = .ok (.ifCond .ne 5, 3) := by decide +kernel
theorem dX12_readMarks_66 : decode prog_14_method_71_code 66 = .ok (.iconst 0, 1) := by decide +kernel
theorem dX12_readMarks_67 : decode prog_14_method_71_code 67 = .ok (.ireturn, 1) := by decide +kernel
theorem dX12_readMarks_68 : decode prog_14_method_71_code 68 = .ok (.iinc 2 1, 3) := by decide +kernel
theorem dX12_readMarks_71 : decode prog_14_method_71_code 71 = .ok (.goto (-28), 3) := by decide +kernel
theorem dX12_readMarks_74 : decode prog_14_method_71_code 74 = .ok (.aload_n 0, 1) := by decide +kernel
theorem dX12_readMarks_75 : decode prog_14_method_71_code 75 = .ok (.getfield 149, 3) := by decide +kernel
theorem dX12_readMarks_78 : decode prog_14_method_71_code 78 = .ok (.sipush 1440, 3) := by decide +kernel
theorem dX12_readMarks_81 : decode prog_14_method_71_code 81 = .ok (.iload_n 1, 1) := by decide +kernel
theorem dX12_readMarks_82 : decode prog_14_method_71_code 82 = .ok (.iadd, 1) := by decide +kernel
theorem dX12_readMarks_83 : decode prog_14_method_71_code 83 = .ok (.aload_n 0, 1) := by decide +kernel
theorem dX12_readMarks_84 : decode prog_14_method_71_code 84 = .ok (.getfield 323, 3) := by decide +kernel
theorem dX12_readMarks_87 : decode prog_14_method_71_code 87 = .ok (.lastore, 1) := by decide +kernel
theorem dX12_readMarks_88 : decode prog_14_method_71_code 88 = .ok (.aload_n 0, 1) := by decide +kernel
theorem dX12_readMarks_89 : decode prog_14_method_71_code 89 = .ok (.getfield 152, 3) := by decide +kernel
theorem dX12_readMarks_92 : decode prog_14_method_71_code 92 = .ok (.sipush 1440, 3) := by decide +kernel
theorem dX12_readMarks_95 : decode prog_14_method_71_code 95 = .ok (.iload_n 1, 1) := by decide +kernel
theorem dX12_readMarks_96 : decode prog_14_method_71_code 96 = .ok (.iadd, 1) := by decide +kernel
theorem dX12_readMarks_97 : decode prog_14_method_71_code 97 = .ok (.iconst 1, 1) := by decide +kernel
theorem dX12_readMarks_98 : decode prog_14_method_71_code 98 = .ok (.iastore, 1) := by decide +kernel
theorem dX12_readMarks_99 : decode prog_14_method_71_code 99 = .ok (.aload_n 0, 1) := by decide +kernel
theorem dX12_readMarks_100 : decode prog_14_method_71_code 100 = .ok (.invokevirtual 292, 3) := by decide +kernel
theorem dX12_readMarks_103 : decode prog_14_method_71_code 103 = .ok (.aload_n 0, 1) := by decide +kernel
theorem dX12_readMarks_104 : decode prog_14_method_71_code 104 = .ok (.getfield 316, 3) := by decide +kernel
theorem dX12_readMarks_107 : decode prog_14_method_71_code 107 = .ok (.iconst 4, 1) := by decide +kernel
theorem dX12_readMarks_108 : decode prog_14_method_71_code 108 = .ok (.if_icmp .ne 35, 3) := by decide +kernel
theorem dX12_readMarks_111 : decode prog_14_method_71_code 111 = .ok (.aload_n 0, 1) := by decide +kernel
theorem dX12_readMarks_112 : decode prog_14_method_71_code 112 = .ok (.invokevirtual 292, 3) := by decide +kernel
theorem dX12_readMarks_115 : decode prog_14_method_71_code 115 = .ok (.aload_n 0, 1) := by decide +kernel
theorem dX12_readMarks_116 : decode prog_14_method_71_code 116 = .ok (.getfield 316, 3) := by decide +kernel
theorem dX12_readMarks_119 : decode prog_14_method_71_code 119 = .ok (.iconst 2, 1) := by decide +kernel
theorem dX12_readMarks_120 : decode prog_14_method_71_code 120 = .ok (.if_icmp .eq 5, 3) := by decide +kernel
theorem dX12_readMarks_123 : decode prog_14_method_71_code 123 = .ok (.iconst 0, 1) := by decide +kernel
theorem dX12_readMarks_124 : decode prog_14_method_71_code 124 = .ok (.ireturn, 1) := by decide +kernel
theorem dX12_readMarks_125 : decode prog_14_method_71_code 125 = .ok (.aload_n 0, 1) := by decide +kernel
theorem dX12_readMarks_126 : decode prog_14_method_71_code 126 = .ok (.getfield 152, 3) := by decide +kernel
theorem dX12_readMarks_129 : decode prog_14_method_71_code 129 = .ok (.sipush 1440, 3) := by decide +kernel
theorem dX12_readMarks_132 : decode prog_14_method_71_code 132 = .ok (.iload_n 1, 1) := by decide +kernel
theorem dX12_readMarks_133 : decode prog_14_method_71_code 133 = .ok (.iadd, 1) := by decide +kernel
theorem dX12_readMarks_134 : decode prog_14_method_71_code 134 = .ok (.aload_n 0, 1) := by decide +kernel
theorem dX12_readMarks_135 : decode prog_14_method_71_code 135 = .ok (.getfield 338, 3) := by decide +kernel
theorem dX12_readMarks_138 : decode prog_14_method_71_code 138 = .ok (.iastore, 1) := by decide +kernel
theorem dX12_readMarks_139 : decode prog_14_method_71_code 139 = .ok (.aload_n 0, 1) := by decide +kernel
theorem dX12_readMarks_140 : decode prog_14_method_71_code 140 = .ok (.invokevirtual 292, 3) := by decide +kernel
theorem dX12_readMarks_143 : decode prog_14_method_71_code 143 = .ok (.aload_n 0, 1) := by decide +kernel
theorem dX12_readMarks_144 : decode prog_14_method_71_code 144 = .ok (.getfield 316, 3) := by decide +kernel
theorem dX12_readMarks_147 : decode prog_14_method_71_code 147 = .ok (.iconst 3, 1) := by decide +kernel
theorem dX12_readMarks_148 : decode prog_14_method_71_code 148 = .ok (.if_icmp .eq 5, 3) := by decide +kernel
theorem dX12_readMarks_151 : decode prog_14_method_71_code 151 = .ok (.iconst 0, 1) := by decide +kernel
theorem dX12_readMarks_152 : decode prog_14_method_71_code 152 = .ok (.ireturn, 1) := by decide +kernel
theorem dX12_readMarks_153 : decode prog_14_method_71_code 153 = .ok (.aload_n 0, 1) := by decide +kernel
theorem dX12_readMarks_154 : decode prog_14_method_71_code 154 = .ok (.invokevirtual 292, 3) := by decide +kernel
theorem dX12_readMarks_157 : decode prog_14_method_71_code 157 = .ok (.aload_n 0, 1) := by decide +kernel
theorem dX12_readMarks_158 : decode prog_14_method_71_code 158 = .ok (.getfield 155, 3) := by decide +kernel
theorem dX12_readMarks_161 : decode prog_14_method_71_code 161 = .ok (.bipush 120, 2) := by decide +kernel
theorem dX12_readMarks_163 : decode prog_14_method_71_code 163 = .ok (.dup2, 1) := by decide +kernel
theorem dX12_readMarks_164 : decode prog_14_method_71_code 164 = .ok (.iaload, 1) := by decide +kernel
theorem dX12_readMarks_165 : decode prog_14_method_71_code 165 = .ok (.iconst 1, 1) := by decide +kernel
theorem dX12_readMarks_166 : decode prog_14_method_71_code 166 = .ok (.iadd, 1) := by decide +kernel
theorem dX12_readMarks_167 : decode prog_14_method_71_code 167 = .ok (.iastore, 1) := by decide +kernel
theorem dX12_readMarks_168 : decode prog_14_method_71_code 168 = .ok (.goto (-160), 3) := by decide +kernel
theorem dX12_readMarks_171 : decode prog_14_method_71_code 171 = .ok (.iconst 1, 1) := by decide +kernel
theorem dX12_readMarks_172 : decode prog_14_method_71_code 172 = .ok (.ireturn, 1) := by decide +kernel
abbrev A_X12_readMarks_8 (l : Launch) (E : bE) (Q : (Int × bM) → Prop) : (bM) → Prop := (fun t : bM => V l E xX12_readMarks (0, 0) 8 [(0, bR 11)] [] t (b_pI Q))
abbrev X_X12_readMarks_8 (l : Launch) (E : bE) (Q : (Int × bM) → Prop) : ((bM) ⊕ (Int × bM)) → Prop := (Sum.elim (fun t : bM => V l E xX12_readMarks (0, 0) 171 [] [] t (b_pI Q)) Q)
abbrev A_X12_readMarks_43 (l : Launch) (E : bE) (Q : (Int × bM) → Prop) (v1 : Int) (M : bM) : (Int) → Prop := (fun t : Int => V l E xX12_readMarks (0, 0) 43 [(0, bR 11), (1, bI v1), (2, bI t)] [] M (b_pI Q))
abbrev X_X12_readMarks_43 (l : Launch) (E : bE) (Q : (Int × bM) → Prop) (v1 : Int) (M : bM) : ((Unit) ⊕ ((bM) ⊕ ((bM) ⊕ (Int × bM)))) → Prop := (Sum.elim (fun t : Unit => V l E xX12_readMarks (0, 0) 74 [(0, bR 11), (1, bI v1)] [] M (b_pI Q)) (Sum.elim (A_X12_readMarks_8 l E Q ) (X_X12_readMarks_8 l E Q )))
noncomputable def F_X12_readMarks_s43 (v1 : Int) (v2 : Int) (M : bM) : Option ((Int) ⊕ ((Unit) ⊕ ((bM) ⊕ ((bM) ⊕ (Int × bM))))) :=
  if v1 ≤ v2 then (some (.inr (.inl ()))) else (b_g (b_i32 (1440 + v2) ∧ (0 ≤ (1440 + v2) ∧ (1440 + v2) < 1452)) (if (j_cmp (M 205 (1440 + v2)) (M 11 10)) = 0 then (some (.inr (.inr (.inr (.inr (0, M)))))) else (b_g (b_i32 (v2 + 1)) (some (.inl ((v2 + 1)))))))
theorem t_X12_readMarks_s43 {l : Launch} {E : bE} {Q : (Int × bM) → Prop} {v1 : Int} {v2 : Int} {M : bM} (hfg : b_fg E) (h : b_wp (F_X12_readMarks_s43 v1 v2 M) (Sum.elim (A_X12_readMarks_43 l E Q v1 M) (X_X12_readMarks_43 l E Q v1 M))) : V l E xX12_readMarks (0, 0) 43 [(0, bR 11), (1, bI v1), (2, bI v2)] [] M (b_pI Q) := by
  unfold F_X12_readMarks_s43 at h
  refine v_iload_n (f := 2) 2 rfl dX12_readMarks_43 ?_
  refine v_iload_n (f := 1) 1 rfl dX12_readMarks_44 ?_
  refine v_icmp_ge (tgt := 74) dX12_readMarks_45 (by decide) (fun c6 => ?_) (fun c6 => ?_)
  · replace h := b_wp_t c6 h
    refine v_sub (ls2 := [(0, bR _), (1, bI _)]) [0, 1] rfl ?_
    exact h
  · replace h := b_wp_f c6 h
    obtain ⟨⟨g7, g8⟩, h⟩ := b_wp_g h
    refine v_aload_n (f := 0) 0 rfl dX12_readMarks_48 ?_
    refine v_getR (kf := 66) (kz := 66) rfl kd_11 rfl ⟨by decide, by decide⟩ rfl wf_12_149 dX12_readMarks_49 ?_
    refine v_sipush ⟨by decide, by decide⟩ (by decide) dX12_readMarks_52 ?_
    refine v_iload_n (f := 2) 2 rfl dX12_readMarks_55 ?_
    refine v_iaddN g7 dX12_readMarks_56 ?_
    refine v_laload kd_205 g8 (by decide) dX12_readMarks_57 ?_
    refine v_aload_n (f := 0) 0 rfl dX12_readMarks_58 ?_
    refine v_getJ (kf := 10) (kz := 10) rfl kd_11 rfl ⟨by decide, by decide⟩ rfl wf_12_323 dX12_readMarks_59 ?_
    refine v_lcmpN dX12_readMarks_62 ?_
    refine v_if_ne (tgt := 68) dX12_readMarks_63 (by decide) (fun c9 => ?_) (fun c9 => ?_)
    · replace h := b_wp_f c9 h
      obtain ⟨g10, h⟩ := b_wp_g h
      refine v_iincN (ls' := [(2, bI _), (0, bR _), (1, bI _)]) 2 rfl (by decide) g10 dX12_readMarks_68 rfl ?_
      refine v_goto (tgt := 43) dX12_readMarks_71 (by decide) ?_
      refine v_sub (ls2 := [(0, bR _), (1, bI _), (2, bI _)]) [1, 2, 0] rfl ?_
      exact h
    · replace h := b_wp_t c9 h
      refine v_iconst ⟨by decide, by decide⟩ dX12_readMarks_66 ?_
      refine v_zreturn rfl (Or.inl rfl) dX12_readMarks_67 ⟨by decide, by decide⟩ ?_
      exact ⟨_, rfl, h⟩
theorem l_X12_readMarks_43 {l : Launch} {E : bE} {Q : (Int × bM) → Prop} {v1 : Int} {M : bM} (hfg : b_fg E) {s : Int} (h : b_wp (b_loop (fun t => F_X12_readMarks_s43 v1 t M) s) (X_X12_readMarks_43 l E Q v1 M)) : A_X12_readMarks_43 l E Q v1 M s := b_loop_wp (fun t h => t_X12_readMarks_s43 hfg h) s h
noncomputable def F_X12_readMarks_b143 (M : bM) : Option ((bM) ⊕ ((bM) ⊕ (Int × bM))) :=
  if (M 11 3) = 3 then (b_bind (F_X12_scan M) (fun M20 => b_g (b_i32 ((M20 207 120) + 1)) (b_let (b_up M20 207 120 ((M20 207 120) + 1)) (fun M22 => some (.inl (M22)))))) else (some (.inr (.inr (0, M))))
theorem t_X12_readMarks_b143 {l : Launch} {E : bE} {Q : (Int × bM) → Prop} {M : bM} (hfg : b_fg E) (h : b_wp (F_X12_readMarks_b143 M) (Sum.elim (A_X12_readMarks_8 l E Q ) (X_X12_readMarks_8 l E Q ))) : V l E xX12_readMarks (0, 0) 143 [(0, bR 11)] [] M (b_pI Q) := by
  unfold F_X12_readMarks_b143 at h
  refine v_aload_n (f := 0) 0 rfl dX12_readMarks_143 ?_
  refine v_getI (kf := 3) (kz := 3) rfl kd_11 rfl ⟨by decide, by decide⟩ rfl wf_12_316 dX12_readMarks_144 ?_
  refine v_iconst ⟨by decide, by decide⟩ dX12_readMarks_147 ?_
  refine v_icmp_eq (tgt := 153) dX12_readMarks_148 (by decide) (fun c19 => ?_) (fun c19 => ?_)
  · replace h := b_wp_t c19 h
    refine v_aload_n (f := 0) 0 rfl dX12_readMarks_153 ?_
    refine v_cVV (nA := 0) (As := []) (ix := 292) (c_X12_scan hfg (b_wp_b h)) rfl kd_11 rfl rfl wc_X12_scan wm_12_292 wi_X12_scan ws_X12_scan wn_12 ⟨by decide, by decide, by decide⟩ rfl ⟨by decide, by decide⟩ ⟨by decide, by decide⟩ (Nat.le_of_ble_eq_true rfl) dX12_readMarks_154 (fun M20 h => ?_)
    obtain ⟨g21, h⟩ := b_wp_g h
    refine v_aload_n (f := 0) 0 rfl dX12_readMarks_157 ?_
    refine v_getR (kf := 68) (kz := 68) rfl kd_11 rfl ⟨by decide, by decide⟩ rfl wf_12_155 dX12_readMarks_158 ?_
    refine v_bipush ⟨by decide, by decide⟩ (by decide) dX12_readMarks_161 ?_
    refine v_dup2 rfl rfl dX12_readMarks_163 ?_
    refine v_iaload kd_207 ⟨by decide, by decide⟩ (by decide) dX12_readMarks_164 ?_
    refine v_iconst ⟨by decide, by decide⟩ dX12_readMarks_165 ?_
    refine v_iaddN g21 dX12_readMarks_166 ?_
    refine v_iastore kd_207 ⟨by decide, by decide⟩ (by decide) dX12_readMarks_167 ?_
    replace h := b_wp_l h
    refine v_goto (tgt := 8) dX12_readMarks_168 (by decide) ?_
    exact h
  · replace h := b_wp_f c19 h
    refine v_iconst ⟨by decide, by decide⟩ dX12_readMarks_151 ?_
    refine v_zreturn rfl (Or.inl rfl) dX12_readMarks_152 ⟨by decide, by decide⟩ ?_
    exact ⟨_, rfl, h⟩
noncomputable def F_X12_readMarks_b74 (v1 : Int) (M : bM) : Option ((bM) ⊕ ((bM) ⊕ (Int × bM))) :=
  b_g (b_i32 (1440 + v1) ∧ (0 ≤ (1440 + v1) ∧ (1440 + v1) < 1452)) (b_let (b_up M 205 (1440 + v1) (M 11 10)) (fun M13 => b_g (b_i32 (1440 + v1) ∧ (0 ≤ (1440 + v1) ∧ (1440 + v1) < 1452)) (b_let (b_up M13 206 (1440 + v1) 1) (fun M16 => b_bind (F_X12_scan M16) (fun M17 => if (M17 11 3) = 4 then (b_bind (F_X12_scan M17) (fun M23 => if (M23 11 3) = 2 then (b_g (b_i32 (1440 + v1) ∧ (0 ≤ (1440 + v1) ∧ (1440 + v1) < 1452)) (b_let (b_up M23 206 (1440 + v1) (M23 11 7)) (fun M27 => b_bind (F_X12_scan M27) (fun M28 => F_X12_readMarks_b143 M28)))) else (some (.inr (.inr (0, M23)))))) else (F_X12_readMarks_b143 M17))))))
theorem t_X12_readMarks_b74 {l : Launch} {E : bE} {Q : (Int × bM) → Prop} {v1 : Int} {M : bM} (hfg : b_fg E) (h : b_wp (F_X12_readMarks_b74 v1 M) (Sum.elim (A_X12_readMarks_8 l E Q ) (X_X12_readMarks_8 l E Q ))) : V l E xX12_readMarks (0, 0) 74 [(0, bR 11), (1, bI v1)] [] M (b_pI Q) := by
  unfold F_X12_readMarks_b74 at h
  obtain ⟨⟨g11, g12⟩, h⟩ := b_wp_g h
  refine v_aload_n (f := 0) 0 rfl dX12_readMarks_74 ?_
  refine v_getR (kf := 66) (kz := 66) rfl kd_11 rfl ⟨by decide, by decide⟩ rfl wf_12_149 dX12_readMarks_75 ?_
  refine v_sipush ⟨by decide, by decide⟩ (by decide) dX12_readMarks_78 ?_
  refine v_iload_n (f := 1) 1 rfl dX12_readMarks_81 ?_
  refine v_iaddN g11 dX12_readMarks_82 ?_
  refine v_aload_n (f := 0) 0 rfl dX12_readMarks_83 ?_
  refine v_getJ (kf := 10) (kz := 10) rfl kd_11 rfl ⟨by decide, by decide⟩ rfl wf_12_323 dX12_readMarks_84 ?_
  refine v_lastore kd_205 g12 (by decide) dX12_readMarks_87 ?_
  replace h := b_wp_l h
  obtain ⟨⟨g14, g15⟩, h⟩ := b_wp_g h
  refine v_aload_n (f := 0) 0 rfl dX12_readMarks_88 ?_
  refine v_getR (kf := 67) (kz := 67) rfl kd_11 rfl ⟨by decide, by decide⟩ rfl wf_12_152 dX12_readMarks_89 ?_
  refine v_sipush ⟨by decide, by decide⟩ (by decide) dX12_readMarks_92 ?_
  refine v_iload_n (f := 1) 1 rfl dX12_readMarks_95 ?_
  refine v_iaddN g14 dX12_readMarks_96 ?_
  refine v_iconst ⟨by decide, by decide⟩ dX12_readMarks_97 ?_
  refine v_iastore kd_206 g15 (by decide) dX12_readMarks_98 ?_
  replace h := b_wp_l h
  refine v_aload_n (f := 0) 0 rfl dX12_readMarks_99 ?_
  refine v_cVV (nA := 0) (As := []) (ix := 292) (c_X12_scan hfg (b_wp_b h)) rfl kd_11 rfl rfl wc_X12_scan wm_12_292 wi_X12_scan ws_X12_scan wn_12 ⟨by decide, by decide, by decide⟩ rfl ⟨by decide, by decide⟩ ⟨by decide, by decide⟩ (Nat.le_of_ble_eq_true rfl) dX12_readMarks_100 (fun M17 h => ?_)
  refine v_aload_n (f := 0) 0 rfl dX12_readMarks_103 ?_
  refine v_getI (kf := 3) (kz := 3) rfl kd_11 rfl ⟨by decide, by decide⟩ rfl wf_12_316 dX12_readMarks_104 ?_
  refine v_iconst ⟨by decide, by decide⟩ dX12_readMarks_107 ?_
  refine v_icmp_ne (tgt := 143) dX12_readMarks_108 (by decide) (fun c18 => ?_) (fun c18 => ?_)
  · replace h := b_wp_f c18 h
    refine v_sub (ls2 := [(0, bR _)]) [0] rfl ?_
    exact t_X12_readMarks_b143 hfg h
  · replace h := b_wp_t c18 h
    refine v_aload_n (f := 0) 0 rfl dX12_readMarks_111 ?_
    refine v_cVV (nA := 0) (As := []) (ix := 292) (c_X12_scan hfg (b_wp_b h)) rfl kd_11 rfl rfl wc_X12_scan wm_12_292 wi_X12_scan ws_X12_scan wn_12 ⟨by decide, by decide, by decide⟩ rfl ⟨by decide, by decide⟩ ⟨by decide, by decide⟩ (Nat.le_of_ble_eq_true rfl) dX12_readMarks_112 (fun M23 h => ?_)
    refine v_aload_n (f := 0) 0 rfl dX12_readMarks_115 ?_
    refine v_getI (kf := 3) (kz := 3) rfl kd_11 rfl ⟨by decide, by decide⟩ rfl wf_12_316 dX12_readMarks_116 ?_
    refine v_iconst ⟨by decide, by decide⟩ dX12_readMarks_119 ?_
    refine v_icmp_eq (tgt := 125) dX12_readMarks_120 (by decide) (fun c24 => ?_) (fun c24 => ?_)
    · replace h := b_wp_t c24 h
      obtain ⟨⟨g25, g26⟩, h⟩ := b_wp_g h
      refine v_aload_n (f := 0) 0 rfl dX12_readMarks_125 ?_
      refine v_getR (kf := 67) (kz := 67) rfl kd_11 rfl ⟨by decide, by decide⟩ rfl wf_12_152 dX12_readMarks_126 ?_
      refine v_sipush ⟨by decide, by decide⟩ (by decide) dX12_readMarks_129 ?_
      refine v_iload_n (f := 1) 1 rfl dX12_readMarks_132 ?_
      refine v_iaddN g25 dX12_readMarks_133 ?_
      refine v_aload_n (f := 0) 0 rfl dX12_readMarks_134 ?_
      refine v_getI (kf := 7) (kz := 7) rfl kd_11 rfl ⟨by decide, by decide⟩ rfl wf_12_338 dX12_readMarks_135 ?_
      refine v_iastore kd_206 g26 (by decide) dX12_readMarks_138 ?_
      replace h := b_wp_l h
      refine v_aload_n (f := 0) 0 rfl dX12_readMarks_139 ?_
      refine v_cVV (nA := 0) (As := []) (ix := 292) (c_X12_scan hfg (b_wp_b h)) rfl kd_11 rfl rfl wc_X12_scan wm_12_292 wi_X12_scan ws_X12_scan wn_12 ⟨by decide, by decide, by decide⟩ rfl ⟨by decide, by decide⟩ ⟨by decide, by decide⟩ (Nat.le_of_ble_eq_true rfl) dX12_readMarks_140 (fun M28 h => ?_)
      refine v_sub (ls2 := [(0, bR _)]) [0] rfl ?_
      exact t_X12_readMarks_b143 hfg h
    · replace h := b_wp_f c24 h
      refine v_iconst ⟨by decide, by decide⟩ dX12_readMarks_123 ?_
      refine v_zreturn rfl (Or.inl rfl) dX12_readMarks_124 ⟨by decide, by decide⟩ ?_
      exact ⟨_, rfl, h⟩
noncomputable def F_X12_readMarks_s8 (M : bM) : Option ((bM) ⊕ ((bM) ⊕ (Int × bM))) :=
  if (M 11 3) = 8 then (some (.inr (.inl (M)))) else (b_let ((M 207 120)) (fun y3 => if (M 11 3) = 1 then (if y3 = 12 then (some (.inr (.inr (0, M)))) else (b_bind (b_loop (fun t => F_X12_readMarks_s43 y3 t M) (0)) (Sum.elim (fun t => F_X12_readMarks_b74 y3 M) some))) else (some (.inr (.inr (0, M))))))
theorem t_X12_readMarks_s8 {l : Launch} {E : bE} {Q : (Int × bM) → Prop} {M : bM} (hfg : b_fg E) (h : b_wp (F_X12_readMarks_s8 M) (Sum.elim (A_X12_readMarks_8 l E Q ) (X_X12_readMarks_8 l E Q ))) : V l E xX12_readMarks (0, 0) 8 [(0, bR 11)] [] M (b_pI Q) := by
  unfold F_X12_readMarks_s8 at h
  refine v_aload_n (f := 0) 0 rfl dX12_readMarks_8 ?_
  refine v_getI (kf := 3) (kz := 3) rfl kd_11 rfl ⟨by decide, by decide⟩ rfl wf_12_316 dX12_readMarks_9 ?_
  refine v_bipush ⟨by decide, by decide⟩ (by decide) dX12_readMarks_12 ?_
  refine v_icmp_eq (tgt := 171) dX12_readMarks_14 (by decide) (fun c2 => ?_) (fun c2 => ?_)
  · replace h := b_wp_t c2 h
    refine v_sub (ls2 := []) [] rfl ?_
    exact h
  · replace h := b_wp_f c2 h
    refine v_aload_n (f := 0) 0 rfl dX12_readMarks_17 ?_
    refine v_getR (kf := 68) (kz := 68) rfl kd_11 rfl ⟨by decide, by decide⟩ rfl wf_12_155 dX12_readMarks_18 ?_
    refine v_bipush ⟨by decide, by decide⟩ (by decide) dX12_readMarks_21 ?_
    refine v_iaload kd_207 ⟨by decide, by decide⟩ (by decide) dX12_readMarks_23 ?_
    replace h := b_wp_l h
    refine v_istore_n (g := 1) (i := 1) (ls' := [(1, bI _), (0, bR _)]) rfl (by decide) dX12_readMarks_24 rfl ?_
    refine v_aload_n (f := 0) 1 rfl dX12_readMarks_25 ?_
    refine v_getI (kf := 3) (kz := 3) rfl kd_11 rfl ⟨by decide, by decide⟩ rfl wf_12_316 dX12_readMarks_26 ?_
    refine v_iconst ⟨by decide, by decide⟩ dX12_readMarks_29 ?_
    refine v_icmp_ne (tgt := 39) dX12_readMarks_30 (by decide) (fun c4 => ?_) (fun c4 => ?_)
    · replace h := b_wp_f c4 h
      refine v_iconst ⟨by decide, by decide⟩ dX12_readMarks_39 ?_
      refine v_zreturn rfl (Or.inl rfl) dX12_readMarks_40 ⟨by decide, by decide⟩ ?_
      exact ⟨_, rfl, h⟩
    · replace h := b_wp_t c4 h
      refine v_iload_n (f := 1) 0 rfl dX12_readMarks_33 ?_
      refine v_bipush ⟨by decide, by decide⟩ (by decide) dX12_readMarks_34 ?_
      refine v_icmp_ne (tgt := 41) dX12_readMarks_36 (by decide) (fun c5 => ?_) (fun c5 => ?_)
      · replace h := b_wp_f c5 h
        refine v_iconst ⟨by decide, by decide⟩ dX12_readMarks_41 ?_
        refine v_istore_n (g := 2) (i := 2) (ls' := [(2, bI _), (1, bI _), (0, bR _)]) rfl (by decide) dX12_readMarks_42 rfl ?_
        refine v_sub (ls2 := [(0, bR _), (1, bI _), (2, bI _)]) [2, 1, 0] rfl ?_
        refine l_X12_readMarks_43 hfg (b_wp_m (fun t h => ?_) (b_wp_b h))
        cases t with
        | inr o => exact h
        | inl t =>
          show V l E xX12_readMarks (0, 0) 74 [(0, bR 11), (1, bI y3)] [] M (b_pI Q)
          replace h : b_wp (F_X12_readMarks_b74 y3 M) _ := h
          exact t_X12_readMarks_b74 hfg h
      · replace h := b_wp_t c5 h
        refine v_iconst ⟨by decide, by decide⟩ dX12_readMarks_39 ?_
        refine v_zreturn rfl (Or.inl rfl) dX12_readMarks_40 ⟨by decide, by decide⟩ ?_
        exact ⟨_, rfl, h⟩
theorem l_X12_readMarks_8 {l : Launch} {E : bE} {Q : (Int × bM) → Prop} (hfg : b_fg E) {s : bM} (h : b_wp (b_loop (fun t => F_X12_readMarks_s8 t) s) (X_X12_readMarks_8 l E Q )) : A_X12_readMarks_8 l E Q  s := b_loop_wp (fun t h => t_X12_readMarks_s8 hfg h) s h
noncomputable def F_X12_readMarks_b171 (M : bM) : Option (Int × bM) :=
  some (1, M)
theorem t_X12_readMarks_b171 {l : Launch} {E : bE} {Q : (Int × bM) → Prop} {M : bM} (hfg : b_fg E) (h : b_wp (F_X12_readMarks_b171 M) (Q)) : V l E xX12_readMarks (0, 0) 171 [] [] M (b_pI Q) := by
  unfold F_X12_readMarks_b171 at h
  refine v_iconst ⟨by decide, by decide⟩ dX12_readMarks_171 ?_
  refine v_zreturn rfl (Or.inr rfl) dX12_readMarks_172 ⟨by decide, by decide⟩ ?_
  exact ⟨_, rfl, h⟩
noncomputable def F_X12_readMarks (M : bM) : Option (Int × bM) :=
  b_let (b_up M 207 120 0) (fun M1 => b_bind (b_loop (fun t => F_X12_readMarks_s8 t) (M1)) (Sum.elim (fun t => F_X12_readMarks_b171 t) some))
theorem t_X12_readMarks {l : Launch} {E : bE} {Q : (Int × bM) → Prop} {M : bM} (hfg : b_fg E) (h : b_wp (F_X12_readMarks M) (Q)) : V l E xX12_readMarks (0, 0) 0 [(0, bR 11)] [] M (b_pI Q) := by
  unfold F_X12_readMarks at h
  refine v_aload_n (f := 0) 0 rfl dX12_readMarks_0 ?_
  refine v_getR (kf := 68) (kz := 68) rfl kd_11 rfl ⟨by decide, by decide⟩ rfl wf_12_155 dX12_readMarks_1 ?_
  refine v_bipush ⟨by decide, by decide⟩ (by decide) dX12_readMarks_4 ?_
  refine v_iconst ⟨by decide, by decide⟩ dX12_readMarks_6 ?_
  refine v_iastore kd_207 ⟨by decide, by decide⟩ (by decide) dX12_readMarks_7 ?_
  replace h := b_wp_l h
  refine l_X12_readMarks_8 hfg (b_wp_m (fun t h => ?_) (b_wp_b h))
  cases t with
  | inr o => exact h
  | inl t =>
    show V l E xX12_readMarks (0, 0) 171 [] [] t (b_pI Q)
    replace h : b_wp (F_X12_readMarks_b171 t) _ := h
    exact t_X12_readMarks_b171 hfg h
theorem c_X12_readMarks {l : Launch} {E : bE} {M : bM} (hfg : b_fg E) {Q : (Int × bM) → Prop} (h : b_wp (F_X12_readMarks M) Q) : b_C l E xX12_readMarks yX12_readMarks [bR 11] M (b_pI Q) := b_met (by decide) ⟨rfl, rfl⟩ (Nat.le_of_ble_eq_true rfl) (fun _ _ => t_X12_readMarks hfg h)
abbrev xX12_burnt : bX := ("BurntHallModel", prog_14_method_72_code, 1, (Option.some Jvm.ClassFile.FieldType.int), b_rm 1 0 0, 0, "burnt")
abbrev yX12_burnt : MethodName := ⟨"BurntHallModel", "burnt", "()I"⟩
theorem dX12_burnt_0 : decode prog_14_method_72_code 0 = .ok (.aload_n 0, 1) := by decide +kernel
theorem dX12_burnt_1 : decode prog_14_method_72_code 1 = .ok (.getfield 496, 3) := by decide +kernel
theorem dX12_burnt_4 : decode prog_14_method_72_code 4 = .ok (.bipush 30, 2) := by decide +kernel
theorem dX12_burnt_6 : decode prog_14_method_72_code 6 = .ok (.if_icmp .ne 6, 3) := by decide +kernel
theorem dX12_burnt_9 : decode prog_14_method_72_code 9 = .ok (.bipush (-3), 2) := by decide +kernel
theorem dX12_burnt_11 : decode prog_14_method_72_code 11 = .ok (.ireturn, 1) := by decide +kernel
theorem dX12_burnt_12 : decode prog_14_method_72_code 12 = .ok (.aload_n 0, 1) := by decide +kernel
theorem dX12_burnt_13 : decode prog_14_method_72_code 13 = .ok (.dup, 1) := by decide +kernel
theorem dX12_burnt_14 : decode prog_14_method_72_code 14 = .ok (.getfield 496, 3) := by decide +kernel
theorem dX12_burnt_17 : decode prog_14_method_72_code 17 = .ok (.iconst 1, 1) := by decide +kernel
theorem dX12_burnt_18 : decode prog_14_method_72_code 18 = .ok (.iadd, 1) := by decide +kernel
theorem dX12_burnt_19 : decode prog_14_method_72_code 19 = .ok (.putfield 496, 3) := by decide +kernel
theorem dX12_burnt_22 : decode prog_14_method_72_code 22 = .ok (.aload_n 0, 1) := by decide +kernel
theorem dX12_burnt_23 : decode prog_14_method_72_code 23 = .ok (.getfield 496, 3) := by decide +kernel
theorem dX12_burnt_26 : decode prog_14_method_72_code 26 = .ok (.iconst 1, 1) := by decide +kernel
theorem dX12_burnt_27 : decode prog_14_method_72_code 27 = .ok (.isub, 1) := by decide +kernel
theorem dX12_burnt_28 : decode prog_14_method_72_code 28 = .ok (.ireturn, 1) := by decide +kernel
noncomputable def F_X12_burnt (M : bM) : Option (Int × bM) :=
  if (M 11 52) = 30 then (some ((-3), M)) else (b_g (b_i32 ((M 11 52) + 1)) (b_let (b_up M 11 52 ((M 11 52) + 1)) (fun M3 => b_g (b_i32 ((M3 11 52) - 1)) (some (((M3 11 52) - 1), M3)))))
theorem t_X12_burnt {l : Launch} {E : bE} {Q : (Int × bM) → Prop} {M : bM} (h : b_wp (F_X12_burnt M) (Q)) : V l E xX12_burnt (0, 0) 0 [(0, bR 11)] [] M (b_pI Q) := by
  unfold F_X12_burnt at h
  refine v_aload_n (f := 0) 0 rfl dX12_burnt_0 ?_
  refine v_getI (kf := 52) (kz := 52) rfl kd_11 rfl ⟨by decide, by decide⟩ rfl wf_12_496 dX12_burnt_1 ?_
  refine v_bipush ⟨by decide, by decide⟩ (by decide) dX12_burnt_4 ?_
  refine v_icmp_ne (tgt := 12) dX12_burnt_6 (by decide) (fun c1 => ?_) (fun c1 => ?_)
  · replace h := b_wp_f c1 h
    obtain ⟨g2, h⟩ := b_wp_g h
    refine v_aload_n (f := 0) 0 rfl dX12_burnt_12 ?_
    refine v_dup rfl dX12_burnt_13 ?_
    refine v_getI (kf := 52) (kz := 52) rfl kd_11 rfl ⟨by decide, by decide⟩ rfl wf_12_496 dX12_burnt_14 ?_
    refine v_iconst ⟨by decide, by decide⟩ dX12_burnt_17 ?_
    refine v_iaddN g2 dX12_burnt_18 ?_
    refine v_putI (kf := 52) (kz := 52) rfl kd_11 rfl ⟨by decide, by decide⟩ rfl wf_12_496 rfl rfl dX12_burnt_19 ?_
    replace h := b_wp_l h
    obtain ⟨g4, h⟩ := b_wp_g h
    refine v_aload_n (f := 0) 0 rfl dX12_burnt_22 ?_
    refine v_getI (kf := 52) (kz := 52) rfl kd_11 rfl ⟨by decide, by decide⟩ rfl wf_12_496 dX12_burnt_23 ?_
    refine v_iconst ⟨by decide, by decide⟩ dX12_burnt_26 ?_
    refine v_isubN g4 dX12_burnt_27 ?_
    refine v_ireturn rfl dX12_burnt_28 ⟨by decide, by decide⟩ ?_
    exact ⟨_, rfl, h⟩
  · replace h := b_wp_t c1 h
    refine v_bipush ⟨by decide, by decide⟩ (by decide) dX12_burnt_9 ?_
    refine v_ireturn rfl dX12_burnt_11 ⟨by decide, by decide⟩ ?_
    exact ⟨_, rfl, h⟩
theorem c_X12_burnt {l : Launch} {E : bE} {M : bM} {Q : (Int × bM) → Prop} (h : b_wp (F_X12_burnt M) Q) : b_C l E xX12_burnt yX12_burnt [bR 11] M (b_pI Q) := b_met (by decide) ⟨rfl, rfl⟩ (Nat.le_of_ble_eq_true rfl) (fun _ _ => t_X12_burnt h)
abbrev xX12_paper : bX := ("BurntHallModel", prog_14_method_73_code, 10, (Option.some Jvm.ClassFile.FieldType.int), b_rm 9 0 0, 0, "paper")
abbrev yX12_paper : MethodName := ⟨"BurntHallModel", "paper", "(IIIIIII)I"⟩
theorem dX12_paper_0 : decode prog_14_method_73_code 0 = .ok (.aload_n 0, 1) := by decide +kernel
theorem dX12_paper_1 : decode prog_14_method_73_code 1 = .ok (.invokevirtual 395, 3) := by decide +kernel
theorem dX12_paper_4 : decode prog_14_method_73_code 4 = .ok (.iload_n 1, 1) := by decide +kernel
theorem dX12_paper_5 : decode prog_14_method_73_code 5 = .ok (.iconst 0, 1) := by decide +kernel
theorem dX12_paper_6 : decode prog_14_method_73_code 6 = .ok (.bipush 6, 2) := by decide +kernel
theorem dX12_paper_8 : decode prog_14_method_73_code 8 = .ok (.invokestatic 279, 3) := by decide +kernel
theorem dX12_paper_11 : decode prog_14_method_73_code 11 = .ok (.ifCond .eq 86, 3) := by decide +kernel
theorem dX12_paper_14 : decode prog_14_method_73_code 14 = .ok (.iload_n 2, 1) := by decide +kernel
theorem dX12_paper_15 : decode prog_14_method_73_code 15 = .ok (.iconst (-1), 1) := by decide +kernel
theorem dX12_paper_16 : decode prog_14_method_73_code 16 = .ok (.if_icmp .eq 17, 3) := by decide +kernel
theorem dX12_paper_19 : decode prog_14_method_73_code 19 = .ok (.iload_n 2, 1) := by decide +kernel
theorem dX12_paper_20 : decode prog_14_method_73_code 20 = .ok (.iconst 0, 1) := by decide +kernel
theorem dX12_paper_21 : decode prog_14_method_73_code 21 = .ok (.aload_n 0, 1) := by decide +kernel
theorem dX12_paper_22 : decode prog_14_method_73_code 22 = .ok (.getfield 496, 3) := by decide +kernel
theorem dX12_paper_25 : decode prog_14_method_73_code 25 = .ok (.iconst 1, 1) := by decide +kernel
theorem dX12_paper_26 : decode prog_14_method_73_code 26 = .ok (.isub, 1) := by decide +kernel
theorem dX12_paper_27 : decode prog_14_method_73_code 27 = .ok (.invokestatic 279, 3) := by decide +kernel
theorem dX12_paper_30 : decode prog_14_method_73_code 30 = .ok (.ifCond .eq 67, 3) := by decide +kernel
theorem dX12_paper_33 : decode prog_14_method_73_code 33 = .ok (.iload_n 3, 1) := by decide +kernel
theorem dX12_paper_34 : decode prog_14_method_73_code 34 = .ok (.iconst (-1), 1) := by decide +kernel
theorem dX12_paper_35 : decode prog_14_method_73_code 35 = .ok (.if_icmp .eq 11, 3) := by decide +kernel
theorem dX12_paper_38 : decode prog_14_method_73_code 38 = .ok (.aload_n 0, 1) := by decide +kernel
theorem dX12_paper_39 : decode prog_14_method_73_code 39 = .ok (.iload_n 3, 1) := by decide +kernel
theorem dX12_paper_40 : decode prog_14_method_73_code 40 = .ok (.invokevirtual 356, 3) := by decide +kernel
theorem dX12_paper_43 : decode prog_14_method_73_code 43 = .ok (.ifCond .eq 54, 3) := by decide +kernel
theorem dX12_paper_46 : decode prog_14_method_73_code 46 = .ok (.iload 4, 2) := by decide +kernel
theorem dX12_paper_48 : decode prog_14_method_73_code 48 = .ok (.iconst (-1), 1) := by decide +kernel
theorem dX12_paper_49 : decode prog_14_method_73_code 49 = .ok (.if_icmp .eq 12, 3) := by decide +kernel
theorem dX12_paper_52 : decode prog_14_method_73_code 52 = .ok (.aload_n 0, 1) := by decide +kernel
theorem dX12_paper_53 : decode prog_14_method_73_code 53 = .ok (.iload 4, 2) := by decide +kernel
theorem dX12_paper_55 : decode prog_14_method_73_code 55 = .ok (.invokevirtual 356, 3) := by decide +kernel
theorem dX12_paper_58 : decode prog_14_method_73_code 58 = .ok (.ifCond .eq 39, 3) := by decide +kernel
theorem dX12_paper_61 : decode prog_14_method_73_code 61 = .ok (.iload 5, 2) := by decide +kernel
theorem dX12_paper_63 : decode prog_14_method_73_code 63 = .ok (.iconst (-1), 1) := by decide +kernel
theorem dX12_paper_64 : decode prog_14_method_73_code 64 = .ok (.if_icmp .eq 12, 3) := by decide +kernel
theorem dX12_paper_67 : decode prog_14_method_73_code 67 = .ok (.aload_n 0, 1) := by decide +kernel
theorem dX12_paper_68 : decode prog_14_method_73_code 68 = .ok (.iload 5, 2) := by decide +kernel
theorem dX12_paper_70 : decode prog_14_method_73_code 70 = .ok (.invokevirtual 385, 3) := by decide +kernel
theorem dX12_paper_73 : decode prog_14_method_73_code 73 = .ok (.ifCond .eq 24, 3) := by decide +kernel
theorem dX12_paper_76 : decode prog_14_method_73_code 76 = .ok (.iload 6, 2) := by decide +kernel
theorem dX12_paper_78 : decode prog_14_method_73_code 78 = .ok (.invokestatic 347, 3) := by decide +kernel
theorem dX12_paper_81 : decode prog_14_method_73_code 81 = .ok (.ifCond .eq 16, 3) := by decide +kernel
theorem dX12_paper_84 : decode prog_14_method_73_code 84 = .ok (.iload 7, 2) := by decide +kernel
theorem dX12_paper_86 : decode prog_14_method_73_code 86 = .ok (.iload 6, 2) := by decide +kernel
theorem dX12_paper_88 : decode prog_14_method_73_code 88 = .ok (.sipush 9999, 3) := by decide +kernel
theorem dX12_paper_91 : decode prog_14_method_73_code 91 = .ok (.invokestatic 279, 3) := by decide +kernel
theorem dX12_paper_94 : decode prog_14_method_73_code 94 = .ok (.ifCond .ne 6, 3) := by decide +kernel
theorem dX12_paper_97 : decode prog_14_method_73_code 97 = .ok (.bipush (-2), 2) := by decide +kernel
theorem dX12_paper_99 : decode prog_14_method_73_code 99 = .ok (.ireturn, 1) := by decide +kernel
theorem dX12_paper_100 : decode prog_14_method_73_code 100 = .ok (.aload_n 0, 1) := by decide +kernel
theorem dX12_paper_101 : decode prog_14_method_73_code 101 = .ok (.invokevirtual 499, 3) := by decide +kernel
theorem dX12_paper_104 : decode prog_14_method_73_code 104 = .ok (.ifCond .ne 5, 3) := by decide +kernel
theorem dX12_paper_107 : decode prog_14_method_73_code 107 = .ok (.iconst (-1), 1) := by decide +kernel
theorem dX12_paper_108 : decode prog_14_method_73_code 108 = .ok (.ireturn, 1) := by decide +kernel
theorem dX12_paper_109 : decode prog_14_method_73_code 109 = .ok (.aload_n 0, 1) := by decide +kernel
theorem dX12_paper_110 : decode prog_14_method_73_code 110 = .ok (.getfield 502, 3) := by decide +kernel
theorem dX12_paper_113 : decode prog_14_method_73_code 113 = .ok (.bipush 120, 2) := by decide +kernel
theorem dX12_paper_115 : decode prog_14_method_73_code 115 = .ok (.if_icmp .ne 6, 3) := by decide +kernel
theorem dX12_paper_118 : decode prog_14_method_73_code 118 = .ok (.bipush (-3), 2) := by decide +kernel
theorem dX12_paper_120 : decode prog_14_method_73_code 120 = .ok (.ireturn, 1) := by decide +kernel
theorem dX12_paper_121 : decode prog_14_method_73_code 121 = .ok (.aload_n 0, 1) := by decide +kernel
theorem dX12_paper_122 : decode prog_14_method_73_code 122 = .ok (.getfield 502, 3) := by decide +kernel
theorem dX12_paper_125 : decode prog_14_method_73_code 125 = .ok (.istore 8, 2) := by decide +kernel
theorem dX12_paper_127 : decode prog_14_method_73_code 127 = .ok (.aload_n 0, 1) := by decide +kernel
theorem dX12_paper_128 : decode prog_14_method_73_code 128 = .ok (.getfield 115, 3) := by decide +kernel
theorem dX12_paper_131 : decode prog_14_method_73_code 131 = .ok (.iload 8, 2) := by decide +kernel
theorem dX12_paper_133 : decode prog_14_method_73_code 133 = .ok (.iload_n 1, 1) := by decide +kernel
theorem dX12_paper_134 : decode prog_14_method_73_code 134 = .ok (.iastore, 1) := by decide +kernel
theorem dX12_paper_135 : decode prog_14_method_73_code 135 = .ok (.aload_n 0, 1) := by decide +kernel
theorem dX12_paper_136 : decode prog_14_method_73_code 136 = .ok (.getfield 118, 3) := by decide +kernel
theorem dX12_paper_139 : decode prog_14_method_73_code 139 = .ok (.iload 8, 2) := by decide +kernel
theorem dX12_paper_141 : decode prog_14_method_73_code 141 = .ok (.iload_n 2, 1) := by decide +kernel
theorem dX12_paper_142 : decode prog_14_method_73_code 142 = .ok (.iastore, 1) := by decide +kernel
theorem dX12_paper_143 : decode prog_14_method_73_code 143 = .ok (.aload_n 0, 1) := by decide +kernel
theorem dX12_paper_144 : decode prog_14_method_73_code 144 = .ok (.getfield 121, 3) := by decide +kernel
theorem dX12_paper_147 : decode prog_14_method_73_code 147 = .ok (.iconst 3, 1) := by decide +kernel
theorem dX12_paper_148 : decode prog_14_method_73_code 148 = .ok (.iload 8, 2) := by decide +kernel
theorem dX12_paper_150 : decode prog_14_method_73_code 150 = .ok (.imul, 1) := by decide +kernel
theorem dX12_paper_151 : decode prog_14_method_73_code 151 = .ok (.iload_n 3, 1) := by decide +kernel
theorem dX12_paper_152 : decode prog_14_method_73_code 152 = .ok (.iastore, 1) := by decide +kernel
theorem dX12_paper_153 : decode prog_14_method_73_code 153 = .ok (.aload_n 0, 1) := by decide +kernel
theorem dX12_paper_154 : decode prog_14_method_73_code 154 = .ok (.getfield 121, 3) := by decide +kernel
theorem dX12_paper_157 : decode prog_14_method_73_code 157 = .ok (.iconst 3, 1) := by decide +kernel
theorem dX12_paper_158 : decode prog_14_method_73_code 158 = .ok (.iload 8, 2) := by decide +kernel
theorem dX12_paper_160 : decode prog_14_method_73_code 160 = .ok (.imul, 1) := by decide +kernel
theorem dX12_paper_161 : decode prog_14_method_73_code 161 = .ok (.iconst 1, 1) := by decide +kernel
theorem dX12_paper_162 : decode prog_14_method_73_code 162 = .ok (.iadd, 1) := by decide +kernel
theorem dX12_paper_163 : decode prog_14_method_73_code 163 = .ok (.iload 4, 2) := by decide +kernel
theorem dX12_paper_165 : decode prog_14_method_73_code 165 = .ok (.iastore, 1) := by decide +kernel
theorem dX12_paper_166 : decode prog_14_method_73_code 166 = .ok (.aload_n 0, 1) := by decide +kernel
theorem dX12_paper_167 : decode prog_14_method_73_code 167 = .ok (.getfield 121, 3) := by decide +kernel
theorem dX12_paper_170 : decode prog_14_method_73_code 170 = .ok (.iconst 3, 1) := by decide +kernel
theorem dX12_paper_171 : decode prog_14_method_73_code 171 = .ok (.iload 8, 2) := by decide +kernel
theorem dX12_paper_173 : decode prog_14_method_73_code 173 = .ok (.imul, 1) := by decide +kernel
theorem dX12_paper_174 : decode prog_14_method_73_code 174 = .ok (.iconst 2, 1) := by decide +kernel
theorem dX12_paper_175 : decode prog_14_method_73_code 175 = .ok (.iadd, 1) := by decide +kernel
theorem dX12_paper_176 : decode prog_14_method_73_code 176 = .ok (.iload 5, 2) := by decide +kernel
theorem dX12_paper_178 : decode prog_14_method_73_code 178 = .ok (.iastore, 1) := by decide +kernel
theorem dX12_paper_179 : decode prog_14_method_73_code 179 = .ok (.aload_n 0, 1) := by decide +kernel
theorem dX12_paper_180 : decode prog_14_method_73_code 180 = .ok (.getfield 124, 3) := by decide +kernel
theorem dX12_paper_183 : decode prog_14_method_73_code 183 = .ok (.iload 8, 2) := by decide +kernel
theorem dX12_paper_185 : decode prog_14_method_73_code 185 = .ok (.iload 6, 2) := by decide +kernel
theorem dX12_paper_187 : decode prog_14_method_73_code 187 = .ok (.iastore, 1) := by decide +kernel
theorem dX12_paper_188 : decode prog_14_method_73_code 188 = .ok (.aload_n 0, 1) := by decide +kernel
theorem dX12_paper_189 : decode prog_14_method_73_code 189 = .ok (.getfield 127, 3) := by decide +kernel
theorem dX12_paper_192 : decode prog_14_method_73_code 192 = .ok (.iload 8, 2) := by decide +kernel
theorem dX12_paper_194 : decode prog_14_method_73_code 194 = .ok (.iload 7, 2) := by decide +kernel
theorem dX12_paper_196 : decode prog_14_method_73_code 196 = .ok (.iastore, 1) := by decide +kernel
theorem dX12_paper_197 : decode prog_14_method_73_code 197 = .ok (.aload_n 0, 1) := by decide +kernel
theorem dX12_paper_198 : decode prog_14_method_73_code 198 = .ok (.getfield 130, 3) := by decide +kernel
theorem dX12_paper_201 : decode prog_14_method_73_code 201 = .ok (.iload 8, 2) := by decide +kernel
theorem dX12_paper_203 : decode prog_14_method_73_code 203 = .ok (.aload_n 0, 1) := by decide +kernel
theorem dX12_paper_204 : decode prog_14_method_73_code 204 = .ok (.getfield 344, 3) := by decide +kernel
theorem dX12_paper_207 : decode prog_14_method_73_code 207 = .ok (.iastore, 1) := by decide +kernel
theorem dX12_paper_208 : decode prog_14_method_73_code 208 = .ok (.aload_n 0, 1) := by decide +kernel
theorem dX12_paper_209 : decode prog_14_method_73_code 209 = .ok (.getfield 155, 3) := by decide +kernel
theorem dX12_paper_212 : decode prog_14_method_73_code 212 = .ok (.iload 8, 2) := by decide +kernel
theorem dX12_paper_214 : decode prog_14_method_73_code 214 = .ok (.aload_n 0, 1) := by decide +kernel
theorem dX12_paper_215 : decode prog_14_method_73_code 215 = .ok (.getfield 155, 3) := by decide +kernel
theorem dX12_paper_218 : decode prog_14_method_73_code 218 = .ok (.bipush 120, 2) := by decide +kernel
theorem dX12_paper_220 : decode prog_14_method_73_code 220 = .ok (.iaload, 1) := by decide +kernel
theorem dX12_paper_221 : decode prog_14_method_73_code 221 = .ok (.iastore, 1) := by decide +kernel
theorem dX12_paper_222 : decode prog_14_method_73_code 222 = .ok (.iconst 0, 1) := by decide +kernel
theorem dX12_paper_223 : decode prog_14_method_73_code 223 = .ok (.istore 9, 2) := by decide +kernel
theorem dX12_paper_225 : decode prog_14_method_73_code 225 = .ok (.iload 9, 2) := by decide +kernel
theorem dX12_paper_227 : decode prog_14_method_73_code 227 = .ok (.bipush 12, 2) := by decide +kernel
theorem dX12_paper_229 : decode prog_14_method_73_code 229 = .ok (.if_icmp .ge 57, 3) := by decide +kernel
theorem dX12_paper_232 : decode prog_14_method_73_code 232 = .ok (.aload_n 0, 1) := by decide +kernel
theorem dX12_paper_233 : decode prog_14_method_73_code 233 = .ok (.getfield 149, 3) := by decide +kernel
theorem dX12_paper_236 : decode prog_14_method_73_code 236 = .ok (.bipush 12, 2) := by decide +kernel
theorem dX12_paper_238 : decode prog_14_method_73_code 238 = .ok (.iload 8, 2) := by decide +kernel
theorem dX12_paper_240 : decode prog_14_method_73_code 240 = .ok (.imul, 1) := by decide +kernel
theorem dX12_paper_241 : decode prog_14_method_73_code 241 = .ok (.iload 9, 2) := by decide +kernel
theorem dX12_paper_243 : decode prog_14_method_73_code 243 = .ok (.iadd, 1) := by decide +kernel
theorem dX12_paper_244 : decode prog_14_method_73_code 244 = .ok (.aload_n 0, 1) := by decide +kernel
theorem dX12_paper_245 : decode prog_14_method_73_code 245 = .ok (.getfield 149, 3) := by decide +kernel
theorem dX12_paper_248 : decode prog_14_method_73_code 248 = .ok (.sipush 1440, 3) := by decide +kernel
theorem dX12_paper_251 : decode prog_14_method_73_code 251 = .ok (.iload 9, 2) := by decide +kernel
theorem dX12_paper_253 : decode prog_14_method_73_code 253 = .ok (.iadd, 1) := by decide +kernel
theorem dX12_paper_254 : decode prog_14_method_73_code 254 = .ok (.laload, 1) := by decide +kernel
theorem dX12_paper_255 : decode prog_14_method_73_code 255 = .ok (.lastore, 1) := by decide +kernel
theorem dX12_paper_256 : decode prog_14_method_73_code 256 = .ok (.aload_n 0, 1) := by decide +kernel
theorem dX12_paper_257 : decode prog_14_method_73_code 257 = .ok (.getfield 152, 3) := by decide +kernel
theorem dX12_paper_260 : decode prog_14_method_73_code 260 = .ok (.bipush 12, 2) := by decide +kernel
theorem dX12_paper_262 : decode prog_14_method_73_code 262 = .ok (.iload 8, 2) := by decide +kernel
theorem dX12_paper_264 : decode prog_14_method_73_code 264 = .ok (.imul, 1) := by decide +kernel
theorem dX12_paper_265 : decode prog_14_method_73_code 265 = .ok (.iload 9, 2) := by decide +kernel
theorem dX12_paper_267 : decode prog_14_method_73_code 267 = .ok (.iadd, 1) := by decide +kernel
theorem dX12_paper_268 : decode prog_14_method_73_code 268 = .ok (.aload_n 0, 1) := by decide +kernel
theorem dX12_paper_269 : decode prog_14_method_73_code 269 = .ok (.getfield 152, 3) := by decide +kernel
theorem dX12_paper_272 : decode prog_14_method_73_code 272 = .ok (.sipush 1440, 3) := by decide +kernel
theorem dX12_paper_275 : decode prog_14_method_73_code 275 = .ok (.iload 9, 2) := by decide +kernel
theorem dX12_paper_277 : decode prog_14_method_73_code 277 = .ok (.iadd, 1) := by decide +kernel
theorem dX12_paper_278 : decode prog_14_method_73_code 278 = .ok (.iaload, 1) := by decide +kernel
theorem dX12_paper_279 : decode prog_14_method_73_code 279 = .ok (.iastore, 1) := by decide +kernel
theorem dX12_paper_280 : decode prog_14_method_73_code 280 = .ok (.iinc 9 1, 3) := by decide +kernel
theorem dX12_paper_283 : decode prog_14_method_73_code 283 = .ok (.goto (-58), 3) := by decide +kernel
theorem dX12_paper_286 : decode prog_14_method_73_code 286 = .ok (.aload_n 0, 1) := by decide +kernel
theorem dX12_paper_287 : decode prog_14_method_73_code 287 = .ok (.dup, 1) := by decide +kernel
theorem dX12_paper_288 : decode prog_14_method_73_code 288 = .ok (.getfield 502, 3) := by decide +kernel
theorem dX12_paper_291 : decode prog_14_method_73_code 291 = .ok (.iconst 1, 1) := by decide +kernel
theorem dX12_paper_292 : decode prog_14_method_73_code 292 = .ok (.iadd, 1) := by decide +kernel
theorem dX12_paper_293 : decode prog_14_method_73_code 293 = .ok (.putfield 502, 3) := by decide +kernel
theorem dX12_paper_296 : decode prog_14_method_73_code 296 = .ok (.iload 8, 2) := by decide +kernel
theorem dX12_paper_298 : decode prog_14_method_73_code 298 = .ok (.ireturn, 1) := by decide +kernel
abbrev A_X12_paper_225 (l : Launch) (E : bE) (Q : (Int × bM) → Prop) (v8 : Int) : (Int × bM) → Prop := (fun t : Int × bM => V l E xX12_paper (0, 0) 225 [(0, bR 11), (8, bI v8), (9, bI (t.1))] [] t.2 (b_pI Q))
abbrev X_X12_paper_225 (l : Launch) (E : bE) (Q : (Int × bM) → Prop) (v8 : Int) : (bM) → Prop := (fun t : bM => V l E xX12_paper (0, 0) 286 [(0, bR 11), (8, bI v8)] [] t (b_pI Q))
noncomputable def F_X12_paper_s225 (v8 : Int) (v9 : Int) (M : bM) : Option ((Int × bM) ⊕ (bM)) :=
  if 12 ≤ v9 then (some (.inr (M))) else (b_g (b_i32 (12 * v8) ∧ b_i32 ((12 * v8) + v9) ∧ b_i32 (1440 + v9) ∧ (0 ≤ (1440 + v9) ∧ (1440 + v9) < 1452) ∧ (0 ≤ ((12 * v8) + v9) ∧ ((12 * v8) + v9) < 1452)) (b_let (b_up M 205 ((12 * v8) + v9) (M 205 (1440 + v9))) (fun M46 => b_g (b_i32 (12 * v8) ∧ b_i32 ((12 * v8) + v9) ∧ b_i32 (1440 + v9) ∧ (0 ≤ (1440 + v9) ∧ (1440 + v9) < 1452) ∧ (0 ≤ ((12 * v8) + v9) ∧ ((12 * v8) + v9) < 1452)) (b_let (b_up M46 206 ((12 * v8) + v9) (M46 206 (1440 + v9))) (fun M52 => b_g (b_i32 (v9 + 1)) (some (.inl ((v9 + 1), M52))))))))
theorem t_X12_paper_s225 {l : Launch} {E : bE} {Q : (Int × bM) → Prop} {v8 : Int} {v9 : Int} {M : bM} (hfg : b_fg E) (h : b_wp (F_X12_paper_s225 v8 v9 M) (Sum.elim (A_X12_paper_225 l E Q v8) (X_X12_paper_225 l E Q v8))) : V l E xX12_paper (0, 0) 225 [(0, bR 11), (8, bI v8), (9, bI v9)] [] M (b_pI Q) := by
  unfold F_X12_paper_s225 at h
  refine v_iload (i := 9) 2 rfl dX12_paper_225 ?_
  refine v_bipush ⟨by decide, by decide⟩ (by decide) dX12_paper_227 ?_
  refine v_icmp_ge (tgt := 286) dX12_paper_229 (by decide) (fun c40 => ?_) (fun c40 => ?_)
  · replace h := b_wp_t c40 h
    refine v_sub (ls2 := [(0, bR _), (8, bI _)]) [0, 1] rfl ?_
    exact h
  · replace h := b_wp_f c40 h
    obtain ⟨⟨g41, g42, g43, g44, g45⟩, h⟩ := b_wp_g h
    refine v_aload_n (f := 0) 0 rfl dX12_paper_232 ?_
    refine v_getR (kf := 66) (kz := 66) rfl kd_11 rfl ⟨by decide, by decide⟩ rfl wf_12_149 dX12_paper_233 ?_
    refine v_bipush ⟨by decide, by decide⟩ (by decide) dX12_paper_236 ?_
    refine v_iload (i := 8) 1 rfl dX12_paper_238 ?_
    refine v_imulN g41 dX12_paper_240 ?_
    refine v_iload (i := 9) 2 rfl dX12_paper_241 ?_
    refine v_iaddN g42 dX12_paper_243 ?_
    refine v_aload_n (f := 0) 0 rfl dX12_paper_244 ?_
    refine v_getR (kf := 66) (kz := 66) rfl kd_11 rfl ⟨by decide, by decide⟩ rfl wf_12_149 dX12_paper_245 ?_
    refine v_sipush ⟨by decide, by decide⟩ (by decide) dX12_paper_248 ?_
    refine v_iload (i := 9) 2 rfl dX12_paper_251 ?_
    refine v_iaddN g43 dX12_paper_253 ?_
    refine v_laload kd_205 g44 (by decide) dX12_paper_254 ?_
    refine v_lastore kd_205 g45 (by decide) dX12_paper_255 ?_
    replace h := b_wp_l h
    obtain ⟨⟨g47, g48, g49, g50, g51⟩, h⟩ := b_wp_g h
    refine v_aload_n (f := 0) 0 rfl dX12_paper_256 ?_
    refine v_getR (kf := 67) (kz := 67) rfl kd_11 rfl ⟨by decide, by decide⟩ rfl wf_12_152 dX12_paper_257 ?_
    refine v_bipush ⟨by decide, by decide⟩ (by decide) dX12_paper_260 ?_
    refine v_iload (i := 8) 1 rfl dX12_paper_262 ?_
    refine v_imulN g47 dX12_paper_264 ?_
    refine v_iload (i := 9) 2 rfl dX12_paper_265 ?_
    refine v_iaddN g48 dX12_paper_267 ?_
    refine v_aload_n (f := 0) 0 rfl dX12_paper_268 ?_
    refine v_getR (kf := 67) (kz := 67) rfl kd_11 rfl ⟨by decide, by decide⟩ rfl wf_12_152 dX12_paper_269 ?_
    refine v_sipush ⟨by decide, by decide⟩ (by decide) dX12_paper_272 ?_
    refine v_iload (i := 9) 2 rfl dX12_paper_275 ?_
    refine v_iaddN g49 dX12_paper_277 ?_
    refine v_iaload kd_206 g50 (by decide) dX12_paper_278 ?_
    refine v_iastore kd_206 g51 (by decide) dX12_paper_279 ?_
    replace h := b_wp_l h
    obtain ⟨g53, h⟩ := b_wp_g h
    refine v_iincN (ls' := [(9, bI _), (0, bR _), (8, bI _)]) 2 rfl (by decide) g53 dX12_paper_280 rfl ?_
    refine v_goto (tgt := 225) dX12_paper_283 (by decide) ?_
    refine v_sub (ls2 := [(0, bR _), (8, bI _), (9, bI _)]) [1, 2, 0] rfl ?_
    exact h
theorem l_X12_paper_225 {l : Launch} {E : bE} {Q : (Int × bM) → Prop} {v8 : Int} (hfg : b_fg E) {s : Int × bM} (h : b_wp (b_loop (fun t => F_X12_paper_s225 v8 t.1 t.2) s) (X_X12_paper_225 l E Q v8)) : A_X12_paper_225 l E Q v8 s := b_loop_wp (fun t h => t_X12_paper_s225 hfg h) s h
noncomputable def F_X12_paper_b286 (v8 : Int) (M : bM) : Option (Int × bM) :=
  b_g (b_i32 ((M 11 53) + 1)) (b_let (b_up M 11 53 ((M 11 53) + 1)) (fun M55 => some (v8, M55)))
theorem t_X12_paper_b286 {l : Launch} {E : bE} {Q : (Int × bM) → Prop} {v8 : Int} {M : bM} (hfg : b_fg E) (h : b_wp (F_X12_paper_b286 v8 M) (Q)) : V l E xX12_paper (0, 0) 286 [(0, bR 11), (8, bI v8)] [] M (b_pI Q) := by
  unfold F_X12_paper_b286 at h
  obtain ⟨g54, h⟩ := b_wp_g h
  refine v_aload_n (f := 0) 0 rfl dX12_paper_286 ?_
  refine v_dup rfl dX12_paper_287 ?_
  refine v_getI (kf := 53) (kz := 53) rfl kd_11 rfl ⟨by decide, by decide⟩ rfl wf_12_502 dX12_paper_288 ?_
  refine v_iconst ⟨by decide, by decide⟩ dX12_paper_291 ?_
  refine v_iaddN g54 dX12_paper_292 ?_
  refine v_putI (kf := 53) (kz := 53) rfl kd_11 rfl ⟨by decide, by decide⟩ rfl wf_12_502 rfl rfl dX12_paper_293 ?_
  replace h := b_wp_l h
  refine v_iload (i := 8) 1 rfl dX12_paper_296 ?_
  refine v_ireturn rfl dX12_paper_298 ⟨by decide, by decide⟩ ?_
  exact ⟨_, rfl, h⟩
noncomputable def F_X12_paper_b76 (v1 : Int) (v2 : Int) (v3 : Int) (v4 : Int) (v5 : Int) (v6 : Int) (v7 : Int) (M : bM) : Option (Int × bM) :=
  b_bind (F_X12_isDay v6 M) (fun x8 => if x8 = 0 then (some ((-2), M)) else (b_bind (F_X12_in v7 v6 9999 M) (fun x10 => if x10 = 0 then (some ((-2), M)) else (b_bind (F_X12_readMarks M) (fun t => b_two t (fun x12 M13 => if x12 = 0 then (some ((-1), M13)) else (if (M13 11 53) = 120 then (some ((-3), M13)) else (b_let ((M13 11 53)) (fun y16 => b_g (0 ≤ y16 ∧ y16 < 120) (b_let (b_up M13 194 y16 v1) (fun M18 => b_g (0 ≤ y16 ∧ y16 < 120) (b_let (b_up M18 195 y16 v2) (fun M20 => b_g (b_i32 (3 * y16) ∧ (0 ≤ (3 * y16) ∧ (3 * y16) < 360)) (b_let (b_up M20 196 (3 * y16) v3) (fun M23 => b_g (b_i32 (3 * y16) ∧ b_i32 ((3 * y16) + 1) ∧ (0 ≤ ((3 * y16) + 1) ∧ ((3 * y16) + 1) < 360)) (b_let (b_up M23 196 ((3 * y16) + 1) v4) (fun M27 => b_g (b_i32 (3 * y16) ∧ b_i32 ((3 * y16) + 2) ∧ (0 ≤ ((3 * y16) + 2) ∧ ((3 * y16) + 2) < 360)) (b_let (b_up M27 196 ((3 * y16) + 2) v5) (fun M31 => b_g (0 ≤ y16 ∧ y16 < 120) (b_let (b_up M31 197 y16 v6) (fun M33 => b_g (0 ≤ y16 ∧ y16 < 120) (b_let (b_up M33 198 y16 v7) (fun M35 => b_g (0 ≤ y16 ∧ y16 < 120) (b_let (b_up M35 199 y16 (M35 11 11)) (fun M37 => b_g (0 ≤ y16 ∧ y16 < 121) (b_let (b_up M37 207 y16 (M37 207 120)) (fun M39 => b_bind (b_loop (fun t => F_X12_paper_s225 y16 t.1 t.2) (0, M39)) (fun t => F_X12_paper_b286 y16 t))))))))))))))))))))))))))))
theorem t_X12_paper_b76 {l : Launch} {E : bE} {Q : (Int × bM) → Prop} {v1 : Int} {v2 : Int} {v3 : Int} {v4 : Int} {v5 : Int} {v6 : Int} {v7 : Int} {M : bM} (hfg : b_fg E) (h : b_wp (F_X12_paper_b76 v1 v2 v3 v4 v5 v6 v7 M) (Q)) : V l E xX12_paper (0, 0) 76 [(0, bR 11), (1, bI v1), (2, bI v2), (3, bI v3), (4, bI v4), (5, bI v5), (6, bI v6), (7, bI v7)] [] M (b_pI Q) := by
  unfold F_X12_paper_b76 at h
  refine v_iload (i := 6) 6 rfl dX12_paper_76 ?_
  refine v_cSIp (nA := 1) (As := [bI _]) (ix := 347) (c_X12_isDay (b_wp_b h)) rfl wc_X12_isDay wm_12_347 wi_X12_isDay wn_12 ⟨by decide, by decide, by decide⟩ rfl ⟨by decide, by decide⟩ ⟨by decide, by decide⟩ (Nat.le_of_ble_eq_true rfl) dX12_paper_78 (fun x8 h => ?_)
  refine v_if_eq (tgt := 97) dX12_paper_81 (by decide) (fun c9 => ?_) (fun c9 => ?_)
  · replace h := b_wp_t c9 h
    refine v_bipush ⟨by decide, by decide⟩ (by decide) dX12_paper_97 ?_
    refine v_ireturn rfl dX12_paper_99 ⟨by decide, by decide⟩ ?_
    exact ⟨_, rfl, h⟩
  · replace h := b_wp_f c9 h
    refine v_iload (i := 7) 7 rfl dX12_paper_84 ?_
    refine v_iload (i := 6) 6 rfl dX12_paper_86 ?_
    refine v_sipush ⟨by decide, by decide⟩ (by decide) dX12_paper_88 ?_
    refine v_cSIp (nA := 3) (As := [bI _, bI _, bI _]) (ix := 279) (c_X12_in (b_wp_b h)) rfl wc_X12_in wm_12_279 wi_X12_in wn_12 ⟨by decide, by decide, by decide⟩ rfl ⟨by decide, by decide⟩ ⟨by decide, by decide⟩ (Nat.le_of_ble_eq_true rfl) dX12_paper_91 (fun x10 h => ?_)
    refine v_if_ne (tgt := 100) dX12_paper_94 (by decide) (fun c11 => ?_) (fun c11 => ?_)
    · replace h := b_wp_f c11 h
      refine v_aload_n (f := 0) 0 rfl dX12_paper_100 ?_
      refine v_cVI (nA := 0) (As := []) (ix := 499) (c_X12_readMarks hfg (b_wp_b h)) rfl kd_11 rfl rfl wc_X12_readMarks wm_12_499 wi_X12_readMarks ws_X12_readMarks wn_12 ⟨by decide, by decide, by decide⟩ rfl ⟨by decide, by decide⟩ ⟨by decide, by decide⟩ (Nat.le_of_ble_eq_true rfl) dX12_paper_101 (fun x12 M13 h => ?_)
      replace h := b_wp_two h
      refine v_if_ne (tgt := 109) dX12_paper_104 (by decide) (fun c14 => ?_) (fun c14 => ?_)
      · replace h := b_wp_f c14 h
        refine v_aload_n (f := 0) 0 rfl dX12_paper_109 ?_
        refine v_getI (kf := 53) (kz := 53) rfl kd_11 rfl ⟨by decide, by decide⟩ rfl wf_12_502 dX12_paper_110 ?_
        refine v_bipush ⟨by decide, by decide⟩ (by decide) dX12_paper_113 ?_
        refine v_icmp_ne (tgt := 121) dX12_paper_115 (by decide) (fun c15 => ?_) (fun c15 => ?_)
        · replace h := b_wp_f c15 h
          refine v_aload_n (f := 0) 0 rfl dX12_paper_121 ?_
          refine v_getI (kf := 53) (kz := 53) rfl kd_11 rfl ⟨by decide, by decide⟩ rfl wf_12_502 dX12_paper_122 ?_
          replace h := b_wp_l h
          obtain ⟨g17, h⟩ := b_wp_g h
          refine v_istore (i := 8) (ls' := [(8, bI _), (0, bR _), (1, bI _), (2, bI _), (3, bI _), (4, bI _), (5, bI _), (6, bI _), (7, bI _)]) (by decide) dX12_paper_125 rfl ?_
          refine v_aload_n (f := 0) 1 rfl dX12_paper_127 ?_
          refine v_getR (kf := 55) (kz := 55) rfl kd_11 rfl ⟨by decide, by decide⟩ rfl wf_12_115 dX12_paper_128 ?_
          refine v_iload (i := 8) 0 rfl dX12_paper_131 ?_
          refine v_iload_n (f := 1) 2 rfl dX12_paper_133 ?_
          refine v_iastore kd_194 g17 (by decide) dX12_paper_134 ?_
          replace h := b_wp_l h
          obtain ⟨g19, h⟩ := b_wp_g h
          refine v_aload_n (f := 0) 1 rfl dX12_paper_135 ?_
          refine v_getR (kf := 56) (kz := 56) rfl kd_11 rfl ⟨by decide, by decide⟩ rfl wf_12_118 dX12_paper_136 ?_
          refine v_iload (i := 8) 0 rfl dX12_paper_139 ?_
          refine v_iload_n (f := 2) 3 rfl dX12_paper_141 ?_
          refine v_iastore kd_195 g19 (by decide) dX12_paper_142 ?_
          replace h := b_wp_l h
          obtain ⟨⟨g21, g22⟩, h⟩ := b_wp_g h
          refine v_aload_n (f := 0) 1 rfl dX12_paper_143 ?_
          refine v_getR (kf := 57) (kz := 57) rfl kd_11 rfl ⟨by decide, by decide⟩ rfl wf_12_121 dX12_paper_144 ?_
          refine v_iconst ⟨by decide, by decide⟩ dX12_paper_147 ?_
          refine v_iload (i := 8) 0 rfl dX12_paper_148 ?_
          refine v_imulN g21 dX12_paper_150 ?_
          refine v_iload_n (f := 3) 4 rfl dX12_paper_151 ?_
          refine v_iastore kd_196 g22 (by decide) dX12_paper_152 ?_
          replace h := b_wp_l h
          obtain ⟨⟨g24, g25, g26⟩, h⟩ := b_wp_g h
          refine v_aload_n (f := 0) 1 rfl dX12_paper_153 ?_
          refine v_getR (kf := 57) (kz := 57) rfl kd_11 rfl ⟨by decide, by decide⟩ rfl wf_12_121 dX12_paper_154 ?_
          refine v_iconst ⟨by decide, by decide⟩ dX12_paper_157 ?_
          refine v_iload (i := 8) 0 rfl dX12_paper_158 ?_
          refine v_imulN g24 dX12_paper_160 ?_
          refine v_iconst ⟨by decide, by decide⟩ dX12_paper_161 ?_
          refine v_iaddN g25 dX12_paper_162 ?_
          refine v_iload (i := 4) 5 rfl dX12_paper_163 ?_
          refine v_iastore kd_196 g26 (by decide) dX12_paper_165 ?_
          replace h := b_wp_l h
          obtain ⟨⟨g28, g29, g30⟩, h⟩ := b_wp_g h
          refine v_aload_n (f := 0) 1 rfl dX12_paper_166 ?_
          refine v_getR (kf := 57) (kz := 57) rfl kd_11 rfl ⟨by decide, by decide⟩ rfl wf_12_121 dX12_paper_167 ?_
          refine v_iconst ⟨by decide, by decide⟩ dX12_paper_170 ?_
          refine v_iload (i := 8) 0 rfl dX12_paper_171 ?_
          refine v_imulN g28 dX12_paper_173 ?_
          refine v_iconst ⟨by decide, by decide⟩ dX12_paper_174 ?_
          refine v_iaddN g29 dX12_paper_175 ?_
          refine v_iload (i := 5) 6 rfl dX12_paper_176 ?_
          refine v_iastore kd_196 g30 (by decide) dX12_paper_178 ?_
          replace h := b_wp_l h
          obtain ⟨g32, h⟩ := b_wp_g h
          refine v_aload_n (f := 0) 1 rfl dX12_paper_179 ?_
          refine v_getR (kf := 58) (kz := 58) rfl kd_11 rfl ⟨by decide, by decide⟩ rfl wf_12_124 dX12_paper_180 ?_
          refine v_iload (i := 8) 0 rfl dX12_paper_183 ?_
          refine v_iload (i := 6) 7 rfl dX12_paper_185 ?_
          refine v_iastore kd_197 g32 (by decide) dX12_paper_187 ?_
          replace h := b_wp_l h
          obtain ⟨g34, h⟩ := b_wp_g h
          refine v_aload_n (f := 0) 1 rfl dX12_paper_188 ?_
          refine v_getR (kf := 59) (kz := 59) rfl kd_11 rfl ⟨by decide, by decide⟩ rfl wf_12_127 dX12_paper_189 ?_
          refine v_iload (i := 8) 0 rfl dX12_paper_192 ?_
          refine v_iload (i := 7) 8 rfl dX12_paper_194 ?_
          refine v_iastore kd_198 g34 (by decide) dX12_paper_196 ?_
          replace h := b_wp_l h
          obtain ⟨g36, h⟩ := b_wp_g h
          refine v_aload_n (f := 0) 1 rfl dX12_paper_197 ?_
          refine v_getR (kf := 60) (kz := 60) rfl kd_11 rfl ⟨by decide, by decide⟩ rfl wf_12_130 dX12_paper_198 ?_
          refine v_iload (i := 8) 0 rfl dX12_paper_201 ?_
          refine v_aload_n (f := 0) 1 rfl dX12_paper_203 ?_
          refine v_getI (kf := 11) (kz := 11) rfl kd_11 rfl ⟨by decide, by decide⟩ rfl wf_12_344 dX12_paper_204 ?_
          refine v_iastore kd_199 g36 (by decide) dX12_paper_207 ?_
          replace h := b_wp_l h
          obtain ⟨g38, h⟩ := b_wp_g h
          refine v_aload_n (f := 0) 1 rfl dX12_paper_208 ?_
          refine v_getR (kf := 68) (kz := 68) rfl kd_11 rfl ⟨by decide, by decide⟩ rfl wf_12_155 dX12_paper_209 ?_
          refine v_iload (i := 8) 0 rfl dX12_paper_212 ?_
          refine v_aload_n (f := 0) 1 rfl dX12_paper_214 ?_
          refine v_getR (kf := 68) (kz := 68) rfl kd_11 rfl ⟨by decide, by decide⟩ rfl wf_12_155 dX12_paper_215 ?_
          refine v_bipush ⟨by decide, by decide⟩ (by decide) dX12_paper_218 ?_
          refine v_iaload kd_207 ⟨by decide, by decide⟩ (by decide) dX12_paper_220 ?_
          refine v_iastore kd_207 g38 (by decide) dX12_paper_221 ?_
          replace h := b_wp_l h
          refine v_iconst ⟨by decide, by decide⟩ dX12_paper_222 ?_
          refine v_istore (i := 9) (ls' := [(9, bI _), (8, bI _), (0, bR _), (1, bI _), (2, bI _), (3, bI _), (4, bI _), (5, bI _), (6, bI _), (7, bI _)]) (by decide) dX12_paper_223 rfl ?_
          refine v_sub (ls2 := [(0, bR _), (8, bI _), (9, bI _)]) [2, 1, 0] rfl ?_
          refine l_X12_paper_225 hfg (b_wp_m (fun t h => ?_) (b_wp_b h))
          show V l E xX12_paper (0, 0) 286 [(0, bR 11), (8, bI y16)] [] t (b_pI Q)
          replace h : b_wp (F_X12_paper_b286 y16 t) _ := h
          exact t_X12_paper_b286 hfg h
        · replace h := b_wp_t c15 h
          refine v_bipush ⟨by decide, by decide⟩ (by decide) dX12_paper_118 ?_
          refine v_ireturn rfl dX12_paper_120 ⟨by decide, by decide⟩ ?_
          exact ⟨_, rfl, h⟩
      · replace h := b_wp_t c14 h
        refine v_iconst ⟨by decide, by decide⟩ dX12_paper_107 ?_
        refine v_ireturn rfl dX12_paper_108 ⟨by decide, by decide⟩ ?_
        exact ⟨_, rfl, h⟩
    · replace h := b_wp_t c11 h
      refine v_bipush ⟨by decide, by decide⟩ (by decide) dX12_paper_97 ?_
      refine v_ireturn rfl dX12_paper_99 ⟨by decide, by decide⟩ ?_
      exact ⟨_, rfl, h⟩
noncomputable def F_X12_paper_b61 (v1 : Int) (v2 : Int) (v3 : Int) (v4 : Int) (v5 : Int) (v6 : Int) (v7 : Int) (M : bM) : Option (Int × bM) :=
  if v5 = (-1) then (F_X12_paper_b76 v1 v2 v3 v4 v5 v6 v7 M) else (b_bind (F_X12_isLot v5 M) (fun x56 => if x56 = 0 then (some ((-2), M)) else (F_X12_paper_b76 v1 v2 v3 v4 v5 v6 v7 M)))
theorem t_X12_paper_b61 {l : Launch} {E : bE} {Q : (Int × bM) → Prop} {v1 : Int} {v2 : Int} {v3 : Int} {v4 : Int} {v5 : Int} {v6 : Int} {v7 : Int} {M : bM} (hfg : b_fg E) (h : b_wp (F_X12_paper_b61 v1 v2 v3 v4 v5 v6 v7 M) (Q)) : V l E xX12_paper (0, 0) 61 [(0, bR 11), (1, bI v1), (2, bI v2), (3, bI v3), (4, bI v4), (5, bI v5), (6, bI v6), (7, bI v7)] [] M (b_pI Q) := by
  unfold F_X12_paper_b61 at h
  refine v_iload (i := 5) 5 rfl dX12_paper_61 ?_
  refine v_iconst ⟨by decide, by decide⟩ dX12_paper_63 ?_
  refine v_icmp_eq (tgt := 76) dX12_paper_64 (by decide) (fun c7 => ?_) (fun c7 => ?_)
  · replace h := b_wp_t c7 h
    exact t_X12_paper_b76 hfg h
  · replace h := b_wp_f c7 h
    refine v_aload_n (f := 0) 0 rfl dX12_paper_67 ?_
    refine v_iload (i := 5) 5 rfl dX12_paper_68 ?_
    refine v_cVIp (nA := 1) (As := [bI _]) (ix := 385) (c_X12_isLot (b_wp_b h)) rfl kd_11 rfl rfl wc_X12_isLot wm_12_385 wi_X12_isLot ws_X12_isLot wn_12 ⟨by decide, by decide, by decide⟩ rfl ⟨by decide, by decide⟩ ⟨by decide, by decide⟩ (Nat.le_of_ble_eq_true rfl) dX12_paper_70 (fun x56 h => ?_)
    refine v_if_eq (tgt := 97) dX12_paper_73 (by decide) (fun c57 => ?_) (fun c57 => ?_)
    · replace h := b_wp_t c57 h
      refine v_bipush ⟨by decide, by decide⟩ (by decide) dX12_paper_97 ?_
      refine v_ireturn rfl dX12_paper_99 ⟨by decide, by decide⟩ ?_
      exact ⟨_, rfl, h⟩
    · replace h := b_wp_f c57 h
      exact t_X12_paper_b76 hfg h
noncomputable def F_X12_paper_b46 (v1 : Int) (v2 : Int) (v3 : Int) (v4 : Int) (v5 : Int) (v6 : Int) (v7 : Int) (M : bM) : Option (Int × bM) :=
  if v4 = (-1) then (F_X12_paper_b61 v1 v2 v3 v4 v5 v6 v7 M) else (b_bind (F_X12_isPerson v4 M) (fun x58 => if x58 = 0 then (some ((-2), M)) else (F_X12_paper_b61 v1 v2 v3 v4 v5 v6 v7 M)))
theorem t_X12_paper_b46 {l : Launch} {E : bE} {Q : (Int × bM) → Prop} {v1 : Int} {v2 : Int} {v3 : Int} {v4 : Int} {v5 : Int} {v6 : Int} {v7 : Int} {M : bM} (hfg : b_fg E) (h : b_wp (F_X12_paper_b46 v1 v2 v3 v4 v5 v6 v7 M) (Q)) : V l E xX12_paper (0, 0) 46 [(0, bR 11), (1, bI v1), (2, bI v2), (3, bI v3), (4, bI v4), (5, bI v5), (6, bI v6), (7, bI v7)] [] M (b_pI Q) := by
  unfold F_X12_paper_b46 at h
  refine v_iload (i := 4) 4 rfl dX12_paper_46 ?_
  refine v_iconst ⟨by decide, by decide⟩ dX12_paper_48 ?_
  refine v_icmp_eq (tgt := 61) dX12_paper_49 (by decide) (fun c6 => ?_) (fun c6 => ?_)
  · replace h := b_wp_t c6 h
    exact t_X12_paper_b61 hfg h
  · replace h := b_wp_f c6 h
    refine v_aload_n (f := 0) 0 rfl dX12_paper_52 ?_
    refine v_iload (i := 4) 4 rfl dX12_paper_53 ?_
    refine v_cVIp (nA := 1) (As := [bI _]) (ix := 356) (c_X12_isPerson (b_wp_b h)) rfl kd_11 rfl rfl wc_X12_isPerson wm_12_356 wi_X12_isPerson ws_X12_isPerson wn_12 ⟨by decide, by decide, by decide⟩ rfl ⟨by decide, by decide⟩ ⟨by decide, by decide⟩ (Nat.le_of_ble_eq_true rfl) dX12_paper_55 (fun x58 h => ?_)
    refine v_if_eq (tgt := 97) dX12_paper_58 (by decide) (fun c59 => ?_) (fun c59 => ?_)
    · replace h := b_wp_t c59 h
      refine v_bipush ⟨by decide, by decide⟩ (by decide) dX12_paper_97 ?_
      refine v_ireturn rfl dX12_paper_99 ⟨by decide, by decide⟩ ?_
      exact ⟨_, rfl, h⟩
    · replace h := b_wp_f c59 h
      exact t_X12_paper_b61 hfg h
noncomputable def F_X12_paper_b33 (v1 : Int) (v2 : Int) (v3 : Int) (v4 : Int) (v5 : Int) (v6 : Int) (v7 : Int) (M : bM) : Option (Int × bM) :=
  if v3 = (-1) then (F_X12_paper_b46 v1 v2 v3 v4 v5 v6 v7 M) else (b_bind (F_X12_isPerson v3 M) (fun x60 => if x60 = 0 then (some ((-2), M)) else (F_X12_paper_b46 v1 v2 v3 v4 v5 v6 v7 M)))
theorem t_X12_paper_b33 {l : Launch} {E : bE} {Q : (Int × bM) → Prop} {v1 : Int} {v2 : Int} {v3 : Int} {v4 : Int} {v5 : Int} {v6 : Int} {v7 : Int} {M : bM} (hfg : b_fg E) (h : b_wp (F_X12_paper_b33 v1 v2 v3 v4 v5 v6 v7 M) (Q)) : V l E xX12_paper (0, 0) 33 [(0, bR 11), (1, bI v1), (2, bI v2), (3, bI v3), (4, bI v4), (5, bI v5), (6, bI v6), (7, bI v7)] [] M (b_pI Q) := by
  unfold F_X12_paper_b33 at h
  refine v_iload_n (f := 3) 3 rfl dX12_paper_33 ?_
  refine v_iconst ⟨by decide, by decide⟩ dX12_paper_34 ?_
  refine v_icmp_eq (tgt := 46) dX12_paper_35 (by decide) (fun c5 => ?_) (fun c5 => ?_)
  · replace h := b_wp_t c5 h
    exact t_X12_paper_b46 hfg h
  · replace h := b_wp_f c5 h
    refine v_aload_n (f := 0) 0 rfl dX12_paper_38 ?_
    refine v_iload_n (f := 3) 3 rfl dX12_paper_39 ?_
    refine v_cVIp (nA := 1) (As := [bI _]) (ix := 356) (c_X12_isPerson (b_wp_b h)) rfl kd_11 rfl rfl wc_X12_isPerson wm_12_356 wi_X12_isPerson ws_X12_isPerson wn_12 ⟨by decide, by decide, by decide⟩ rfl ⟨by decide, by decide⟩ ⟨by decide, by decide⟩ (Nat.le_of_ble_eq_true rfl) dX12_paper_40 (fun x60 h => ?_)
    refine v_if_eq (tgt := 97) dX12_paper_43 (by decide) (fun c61 => ?_) (fun c61 => ?_)
    · replace h := b_wp_t c61 h
      refine v_bipush ⟨by decide, by decide⟩ (by decide) dX12_paper_97 ?_
      refine v_ireturn rfl dX12_paper_99 ⟨by decide, by decide⟩ ?_
      exact ⟨_, rfl, h⟩
    · replace h := b_wp_f c61 h
      exact t_X12_paper_b46 hfg h
noncomputable def F_X12_paper (v1 : Int) (v2 : Int) (v3 : Int) (v4 : Int) (v5 : Int) (v6 : Int) (v7 : Int) (M : bM) : Option (Int × bM) :=
  b_bind (F_X12_take M) (fun M1 => b_bind (F_X12_in v1 0 6 M1) (fun x2 => if x2 = 0 then (some ((-2), M1)) else (if v2 = (-1) then (F_X12_paper_b33 v1 v2 v3 v4 v5 v6 v7 M1) else (b_g (b_i32 ((M1 11 52) - 1)) (b_bind (F_X12_in v2 0 ((M1 11 52) - 1) M1) (fun x63 => if x63 = 0 then (some ((-2), M1)) else (F_X12_paper_b33 v1 v2 v3 v4 v5 v6 v7 M1)))))))
theorem t_X12_paper {l : Launch} {E : bE} {Q : (Int × bM) → Prop} {v1 : Int} {v2 : Int} {v3 : Int} {v4 : Int} {v5 : Int} {v6 : Int} {v7 : Int} {M : bM} (hfg : b_fg E) (h : b_wp (F_X12_paper v1 v2 v3 v4 v5 v6 v7 M) (Q)) : V l E xX12_paper (0, 0) 0 [(0, bR 11), (1, bI v1), (2, bI v2), (3, bI v3), (4, bI v4), (5, bI v5), (6, bI v6), (7, bI v7)] [] M (b_pI Q) := by
  unfold F_X12_paper at h
  refine v_aload_n (f := 0) 0 rfl dX12_paper_0 ?_
  refine v_cVV (nA := 0) (As := []) (ix := 395) (c_X12_take hfg (b_wp_b h)) rfl kd_11 rfl rfl wc_X12_take wm_12_395 wi_X12_take ws_X12_take wn_12 ⟨by decide, by decide, by decide⟩ rfl ⟨by decide, by decide⟩ ⟨by decide, by decide⟩ (Nat.le_of_ble_eq_true rfl) dX12_paper_1 (fun M1 h => ?_)
  refine v_iload_n (f := 1) 1 rfl dX12_paper_4 ?_
  refine v_iconst ⟨by decide, by decide⟩ dX12_paper_5 ?_
  refine v_bipush ⟨by decide, by decide⟩ (by decide) dX12_paper_6 ?_
  refine v_cSIp (nA := 3) (As := [bI _, bI _, bI _]) (ix := 279) (c_X12_in (b_wp_b h)) rfl wc_X12_in wm_12_279 wi_X12_in wn_12 ⟨by decide, by decide, by decide⟩ rfl ⟨by decide, by decide⟩ ⟨by decide, by decide⟩ (Nat.le_of_ble_eq_true rfl) dX12_paper_8 (fun x2 h => ?_)
  refine v_if_eq (tgt := 97) dX12_paper_11 (by decide) (fun c3 => ?_) (fun c3 => ?_)
  · replace h := b_wp_t c3 h
    refine v_bipush ⟨by decide, by decide⟩ (by decide) dX12_paper_97 ?_
    refine v_ireturn rfl dX12_paper_99 ⟨by decide, by decide⟩ ?_
    exact ⟨_, rfl, h⟩
  · replace h := b_wp_f c3 h
    refine v_iload_n (f := 2) 2 rfl dX12_paper_14 ?_
    refine v_iconst ⟨by decide, by decide⟩ dX12_paper_15 ?_
    refine v_icmp_eq (tgt := 33) dX12_paper_16 (by decide) (fun c4 => ?_) (fun c4 => ?_)
    · replace h := b_wp_t c4 h
      exact t_X12_paper_b33 hfg h
    · replace h := b_wp_f c4 h
      obtain ⟨g62, h⟩ := b_wp_g h
      refine v_iload_n (f := 2) 2 rfl dX12_paper_19 ?_
      refine v_iconst ⟨by decide, by decide⟩ dX12_paper_20 ?_
      refine v_aload_n (f := 0) 0 rfl dX12_paper_21 ?_
      refine v_getI (kf := 52) (kz := 52) rfl kd_11 rfl ⟨by decide, by decide⟩ rfl wf_12_496 dX12_paper_22 ?_
      refine v_iconst ⟨by decide, by decide⟩ dX12_paper_25 ?_
      refine v_isubN g62 dX12_paper_26 ?_
      refine v_cSIp (nA := 3) (As := [bI _, bI _, bI _]) (ix := 279) (c_X12_in (b_wp_b h)) rfl wc_X12_in wm_12_279 wi_X12_in wn_12 ⟨by decide, by decide, by decide⟩ rfl ⟨by decide, by decide⟩ ⟨by decide, by decide⟩ (Nat.le_of_ble_eq_true rfl) dX12_paper_27 (fun x63 h => ?_)
      refine v_if_eq (tgt := 97) dX12_paper_30 (by decide) (fun c64 => ?_) (fun c64 => ?_)
      · replace h := b_wp_t c64 h
        refine v_bipush ⟨by decide, by decide⟩ (by decide) dX12_paper_97 ?_
        refine v_ireturn rfl dX12_paper_99 ⟨by decide, by decide⟩ ?_
        exact ⟨_, rfl, h⟩
      · replace h := b_wp_f c64 h
        exact t_X12_paper_b33 hfg h
theorem c_X12_paper {l : Launch} {E : bE} {M : bM} {v1 : Int} {v2 : Int} {v3 : Int} {v4 : Int} {v5 : Int} {v6 : Int} {v7 : Int} (hfg : b_fg E) {Q : (Int × bM) → Prop} (h : b_wp (F_X12_paper v1 v2 v3 v4 v5 v6 v7 M) Q) : b_C l E xX12_paper yX12_paper [bR 11, bI v1, bI v2, bI v3, bI v4, bI v5, bI v6, bI v7] M (b_pI Q) := b_met (by decide) ⟨rfl, rfl⟩ (Nat.le_of_ble_eq_true rfl) (fun _ _ => t_X12_paper hfg h)
abbrev xX12_isPaper : bX := ("BurntHallModel", prog_14_method_74_code, 2, (Option.some Jvm.ClassFile.FieldType.boolean), b_rm 2 0 0, 0, "isPaper")
abbrev yX12_isPaper : MethodName := ⟨"BurntHallModel", "isPaper", "(I)Z"⟩
theorem dX12_isPaper_0 : decode prog_14_method_74_code 0 = .ok (.iload_n 1, 1) := by decide +kernel
theorem dX12_isPaper_1 : decode prog_14_method_74_code 1 = .ok (.iconst 0, 1) := by decide +kernel
theorem dX12_isPaper_2 : decode prog_14_method_74_code 2 = .ok (.aload_n 0, 1) := by decide +kernel
theorem dX12_isPaper_3 : decode prog_14_method_74_code 3 = .ok (.getfield 502, 3) := by decide +kernel
theorem dX12_isPaper_6 : decode prog_14_method_74_code 6 = .ok (.iconst 1, 1) := by decide +kernel
theorem dX12_isPaper_7 : decode prog_14_method_74_code 7 = .ok (.isub, 1) := by decide +kernel
theorem dX12_isPaper_8 : decode prog_14_method_74_code 8 = .ok (.invokestatic 279, 3) := by decide +kernel
theorem dX12_isPaper_11 : decode prog_14_method_74_code 11 = .ok (.ireturn, 1) := by decide +kernel
noncomputable def F_X12_isPaper (v1 : Int) (M : bM) : Option (Int) :=
  b_g (b_i32 ((M 11 53) - 1)) (b_bind (F_X12_in v1 0 ((M 11 53) - 1) M) (fun x2 => b_g (x2 = 0 ∨ x2 = 1) (some x2)))
theorem t_X12_isPaper {l : Launch} {E : bE} {Q : Int → Prop} {v1 : Int} {M : bM} (h : b_wp (F_X12_isPaper v1 M) (Q)) : V l E xX12_isPaper (0, 0) 0 [(0, bR 11), (1, bI v1)] [] M (b_pIp M Q) := by
  unfold F_X12_isPaper at h
  obtain ⟨g1, h⟩ := b_wp_g h
  refine v_iload_n (f := 1) 1 rfl dX12_isPaper_0 ?_
  refine v_iconst ⟨by decide, by decide⟩ dX12_isPaper_1 ?_
  refine v_aload_n (f := 0) 0 rfl dX12_isPaper_2 ?_
  refine v_getI (kf := 53) (kz := 53) rfl kd_11 rfl ⟨by decide, by decide⟩ rfl wf_12_502 dX12_isPaper_3 ?_
  refine v_iconst ⟨by decide, by decide⟩ dX12_isPaper_6 ?_
  refine v_isubN g1 dX12_isPaper_7 ?_
  refine v_cSIp (nA := 3) (As := [bI _, bI _, bI _]) (ix := 279) (c_X12_in (b_wp_b h)) rfl wc_X12_in wm_12_279 wi_X12_in wn_12 ⟨by decide, by decide, by decide⟩ rfl ⟨by decide, by decide⟩ ⟨by decide, by decide⟩ (Nat.le_of_ble_eq_true rfl) dX12_isPaper_8 (fun x2 h => ?_)
  obtain ⟨g3, h⟩ := b_wp_g h
  refine v_zreturn rfl g3 dX12_isPaper_11 ⟨by decide, by decide⟩ ?_
  exact ⟨_, rfl, rfl, h⟩
theorem c_X12_isPaper {l : Launch} {E : bE} {M : bM} {v1 : Int} {Q : Int → Prop} (h : b_wp (F_X12_isPaper v1 M) Q) : b_C l E xX12_isPaper yX12_isPaper [bR 11, bI v1] M (b_pIp M Q) := b_met (by decide) ⟨rfl, rfl⟩ (Nat.le_of_ble_eq_true rfl) (fun _ _ => t_X12_isPaper h)
abbrev xX12_written : bX := ("BurntHallModel", prog_14_method_75_code, 6, (Option.some Jvm.ClassFile.FieldType.int), b_rm 3 0 0, 0, "written")
abbrev yX12_written : MethodName := ⟨"BurntHallModel", "written", "(IIIII)I"⟩
theorem dX12_written_0 : decode prog_14_method_75_code 0 = .ok (.aload_n 0, 1) := by decide +kernel
theorem dX12_written_1 : decode prog_14_method_75_code 1 = .ok (.iload_n 1, 1) := by decide +kernel
theorem dX12_written_2 : decode prog_14_method_75_code 2 = .ok (.invokevirtual 505, 3) := by decide +kernel
theorem dX12_written_5 : decode prog_14_method_75_code 5 = .ok (.ifCond .eq 40, 3) := by decide +kernel
theorem dX12_written_8 : decode prog_14_method_75_code 8 = .ok (.aload_n 0, 1) := by decide +kernel
theorem dX12_written_9 : decode prog_14_method_75_code 9 = .ok (.iload_n 2, 1) := by decide +kernel
theorem dX12_written_10 : decode prog_14_method_75_code 10 = .ok (.invokevirtual 356, 3) := by decide +kernel
theorem dX12_written_13 : decode prog_14_method_75_code 13 = .ok (.ifCond .eq 32, 3) := by decide +kernel
theorem dX12_written_16 : decode prog_14_method_75_code 16 = .ok (.iload_n 3, 1) := by decide +kernel
theorem dX12_written_17 : decode prog_14_method_75_code 17 = .ok (.invokestatic 347, 3) := by decide +kernel
theorem dX12_written_20 : decode prog_14_method_75_code 20 = .ok (.ifCond .eq 25, 3) := by decide +kernel
theorem dX12_written_23 : decode prog_14_method_75_code 23 = .ok (.iload 4, 2) := by decide +kernel
theorem dX12_written_25 : decode prog_14_method_75_code 25 = .ok (.iconst 0, 1) := by decide +kernel
theorem dX12_written_26 : decode prog_14_method_75_code 26 = .ok (.bipush 9, 2) := by decide +kernel
theorem dX12_written_28 : decode prog_14_method_75_code 28 = .ok (.invokestatic 279, 3) := by decide +kernel
theorem dX12_written_31 : decode prog_14_method_75_code 31 = .ok (.ifCond .eq 14, 3) := by decide +kernel
theorem dX12_written_34 : decode prog_14_method_75_code 34 = .ok (.iload 5, 2) := by decide +kernel
theorem dX12_written_36 : decode prog_14_method_75_code 36 = .ok (.iconst 0, 1) := by decide +kernel
theorem dX12_written_37 : decode prog_14_method_75_code 37 = .ok (.bipush 99, 2) := by decide +kernel
theorem dX12_written_39 : decode prog_14_method_75_code 39 = .ok (.invokestatic 279, 3) := by decide +kernel
theorem dX12_written_42 : decode prog_14_method_75_code 42 = .ok (.ifCond .ne 6, 3) := by decide +kernel
theorem dX12_written_45 : decode prog_14_method_75_code 45 = .ok (.bipush (-2), 2) := by decide +kernel
theorem dX12_written_47 : decode prog_14_method_75_code 47 = .ok (.ireturn, 1) := by decide +kernel
theorem dX12_written_48 : decode prog_14_method_75_code 48 = .ok (.aload_n 0, 1) := by decide +kernel
theorem dX12_written_49 : decode prog_14_method_75_code 49 = .ok (.getfield 133, 3) := by decide +kernel
theorem dX12_written_52 : decode prog_14_method_75_code 52 = .ok (.iload_n 1, 1) := by decide +kernel
theorem dX12_written_53 : decode prog_14_method_75_code 53 = .ok (.baload, 1) := by decide +kernel
theorem dX12_written_54 : decode prog_14_method_75_code 54 = .ok (.ifCond .eq 6, 3) := by decide +kernel
theorem dX12_written_57 : decode prog_14_method_75_code 57 = .ok (.bipush (-4), 2) := by decide +kernel
theorem dX12_written_59 : decode prog_14_method_75_code 59 = .ok (.ireturn, 1) := by decide +kernel
theorem dX12_written_60 : decode prog_14_method_75_code 60 = .ok (.aload_n 0, 1) := by decide +kernel
theorem dX12_written_61 : decode prog_14_method_75_code 61 = .ok (.getfield 133, 3) := by decide +kernel
theorem dX12_written_64 : decode prog_14_method_75_code 64 = .ok (.iload_n 1, 1) := by decide +kernel
theorem dX12_written_65 : decode prog_14_method_75_code 65 = .ok (.iconst 1, 1) := by decide +kernel
theorem dX12_written_66 : decode prog_14_method_75_code 66 = .ok (.bastore, 1) := by decide +kernel
theorem dX12_written_67 : decode prog_14_method_75_code 67 = .ok (.aload_n 0, 1) := by decide +kernel
theorem dX12_written_68 : decode prog_14_method_75_code 68 = .ok (.getfield 137, 3) := by decide +kernel
theorem dX12_written_71 : decode prog_14_method_75_code 71 = .ok (.iload_n 1, 1) := by decide +kernel
theorem dX12_written_72 : decode prog_14_method_75_code 72 = .ok (.iload_n 2, 1) := by decide +kernel
theorem dX12_written_73 : decode prog_14_method_75_code 73 = .ok (.iastore, 1) := by decide +kernel
theorem dX12_written_74 : decode prog_14_method_75_code 74 = .ok (.aload_n 0, 1) := by decide +kernel
theorem dX12_written_75 : decode prog_14_method_75_code 75 = .ok (.getfield 140, 3) := by decide +kernel
theorem dX12_written_78 : decode prog_14_method_75_code 78 = .ok (.iload_n 1, 1) := by decide +kernel
theorem dX12_written_79 : decode prog_14_method_75_code 79 = .ok (.iload_n 3, 1) := by decide +kernel
theorem dX12_written_80 : decode prog_14_method_75_code 80 = .ok (.iastore, 1) := by decide +kernel
theorem dX12_written_81 : decode prog_14_method_75_code 81 = .ok (.aload_n 0, 1) := by decide +kernel
theorem dX12_written_82 : decode prog_14_method_75_code 82 = .ok (.getfield 143, 3) := by decide +kernel
theorem dX12_written_85 : decode prog_14_method_75_code 85 = .ok (.iload_n 1, 1) := by decide +kernel
theorem dX12_written_86 : decode prog_14_method_75_code 86 = .ok (.iload 4, 2) := by decide +kernel
theorem dX12_written_88 : decode prog_14_method_75_code 88 = .ok (.iastore, 1) := by decide +kernel
theorem dX12_written_89 : decode prog_14_method_75_code 89 = .ok (.aload_n 0, 1) := by decide +kernel
theorem dX12_written_90 : decode prog_14_method_75_code 90 = .ok (.getfield 146, 3) := by decide +kernel
theorem dX12_written_93 : decode prog_14_method_75_code 93 = .ok (.iload_n 1, 1) := by decide +kernel
theorem dX12_written_94 : decode prog_14_method_75_code 94 = .ok (.iload 5, 2) := by decide +kernel
theorem dX12_written_96 : decode prog_14_method_75_code 96 = .ok (.iastore, 1) := by decide +kernel
theorem dX12_written_97 : decode prog_14_method_75_code 97 = .ok (.iconst 1, 1) := by decide +kernel
theorem dX12_written_98 : decode prog_14_method_75_code 98 = .ok (.ireturn, 1) := by decide +kernel
noncomputable def F_X12_written (v1 : Int) (v2 : Int) (v3 : Int) (v4 : Int) (v5 : Int) (M : bM) : Option (Int × bM) :=
  b_bind (F_X12_isPaper v1 M) (fun x1 => if x1 = 0 then (some ((-2), M)) else (b_bind (F_X12_isPerson v2 M) (fun x3 => if x3 = 0 then (some ((-2), M)) else (b_bind (F_X12_isDay v3 M) (fun x5 => if x5 = 0 then (some ((-2), M)) else (b_bind (F_X12_in v4 0 9 M) (fun x7 => if x7 = 0 then (some ((-2), M)) else (b_bind (F_X12_in v5 0 99 M) (fun x9 => if x9 = 0 then (some ((-2), M)) else (b_g (0 ≤ v1 ∧ v1 < 120) (if (M 200 v1) = 0 then (b_g (0 ≤ v1 ∧ v1 < 120) (b_let (b_up M 200 v1 1) (fun M14 => b_g (0 ≤ v1 ∧ v1 < 120) (b_let (b_up M14 201 v1 v2) (fun M16 => b_g (0 ≤ v1 ∧ v1 < 120) (b_let (b_up M16 202 v1 v3) (fun M18 => b_g (0 ≤ v1 ∧ v1 < 120) (b_let (b_up M18 203 v1 v4) (fun M20 => b_g (0 ≤ v1 ∧ v1 < 120) (b_let (b_up M20 204 v1 v5) (fun M22 => some (1, M22)))))))))))) else (some ((-4), M)))))))))))))
theorem t_X12_written {l : Launch} {E : bE} {Q : (Int × bM) → Prop} {v1 : Int} {v2 : Int} {v3 : Int} {v4 : Int} {v5 : Int} {M : bM} (h : b_wp (F_X12_written v1 v2 v3 v4 v5 M) (Q)) : V l E xX12_written (0, 0) 0 [(0, bR 11), (1, bI v1), (2, bI v2), (3, bI v3), (4, bI v4), (5, bI v5)] [] M (b_pI Q) := by
  unfold F_X12_written at h
  refine v_aload_n (f := 0) 0 rfl dX12_written_0 ?_
  refine v_iload_n (f := 1) 1 rfl dX12_written_1 ?_
  refine v_cVIp (nA := 1) (As := [bI _]) (ix := 505) (c_X12_isPaper (b_wp_b h)) rfl kd_11 rfl rfl wc_X12_isPaper wm_12_505 wi_X12_isPaper ws_X12_isPaper wn_12 ⟨by decide, by decide, by decide⟩ rfl ⟨by decide, by decide⟩ ⟨by decide, by decide⟩ (Nat.le_of_ble_eq_true rfl) dX12_written_2 (fun x1 h => ?_)
  refine v_if_eq (tgt := 45) dX12_written_5 (by decide) (fun c2 => ?_) (fun c2 => ?_)
  · replace h := b_wp_t c2 h
    refine v_bipush ⟨by decide, by decide⟩ (by decide) dX12_written_45 ?_
    refine v_ireturn rfl dX12_written_47 ⟨by decide, by decide⟩ ?_
    exact ⟨_, rfl, h⟩
  · replace h := b_wp_f c2 h
    refine v_aload_n (f := 0) 0 rfl dX12_written_8 ?_
    refine v_iload_n (f := 2) 2 rfl dX12_written_9 ?_
    refine v_cVIp (nA := 1) (As := [bI _]) (ix := 356) (c_X12_isPerson (b_wp_b h)) rfl kd_11 rfl rfl wc_X12_isPerson wm_12_356 wi_X12_isPerson ws_X12_isPerson wn_12 ⟨by decide, by decide, by decide⟩ rfl ⟨by decide, by decide⟩ ⟨by decide, by decide⟩ (Nat.le_of_ble_eq_true rfl) dX12_written_10 (fun x3 h => ?_)
    refine v_if_eq (tgt := 45) dX12_written_13 (by decide) (fun c4 => ?_) (fun c4 => ?_)
    · replace h := b_wp_t c4 h
      refine v_bipush ⟨by decide, by decide⟩ (by decide) dX12_written_45 ?_
      refine v_ireturn rfl dX12_written_47 ⟨by decide, by decide⟩ ?_
      exact ⟨_, rfl, h⟩
    · replace h := b_wp_f c4 h
      refine v_iload_n (f := 3) 3 rfl dX12_written_16 ?_
      refine v_cSIp (nA := 1) (As := [bI _]) (ix := 347) (c_X12_isDay (b_wp_b h)) rfl wc_X12_isDay wm_12_347 wi_X12_isDay wn_12 ⟨by decide, by decide, by decide⟩ rfl ⟨by decide, by decide⟩ ⟨by decide, by decide⟩ (Nat.le_of_ble_eq_true rfl) dX12_written_17 (fun x5 h => ?_)
      refine v_if_eq (tgt := 45) dX12_written_20 (by decide) (fun c6 => ?_) (fun c6 => ?_)
      · replace h := b_wp_t c6 h
        refine v_bipush ⟨by decide, by decide⟩ (by decide) dX12_written_45 ?_
        refine v_ireturn rfl dX12_written_47 ⟨by decide, by decide⟩ ?_
        exact ⟨_, rfl, h⟩
      · replace h := b_wp_f c6 h
        refine v_iload (i := 4) 4 rfl dX12_written_23 ?_
        refine v_iconst ⟨by decide, by decide⟩ dX12_written_25 ?_
        refine v_bipush ⟨by decide, by decide⟩ (by decide) dX12_written_26 ?_
        refine v_cSIp (nA := 3) (As := [bI _, bI _, bI _]) (ix := 279) (c_X12_in (b_wp_b h)) rfl wc_X12_in wm_12_279 wi_X12_in wn_12 ⟨by decide, by decide, by decide⟩ rfl ⟨by decide, by decide⟩ ⟨by decide, by decide⟩ (Nat.le_of_ble_eq_true rfl) dX12_written_28 (fun x7 h => ?_)
        refine v_if_eq (tgt := 45) dX12_written_31 (by decide) (fun c8 => ?_) (fun c8 => ?_)
        · replace h := b_wp_t c8 h
          refine v_bipush ⟨by decide, by decide⟩ (by decide) dX12_written_45 ?_
          refine v_ireturn rfl dX12_written_47 ⟨by decide, by decide⟩ ?_
          exact ⟨_, rfl, h⟩
        · replace h := b_wp_f c8 h
          refine v_iload (i := 5) 5 rfl dX12_written_34 ?_
          refine v_iconst ⟨by decide, by decide⟩ dX12_written_36 ?_
          refine v_bipush ⟨by decide, by decide⟩ (by decide) dX12_written_37 ?_
          refine v_cSIp (nA := 3) (As := [bI _, bI _, bI _]) (ix := 279) (c_X12_in (b_wp_b h)) rfl wc_X12_in wm_12_279 wi_X12_in wn_12 ⟨by decide, by decide, by decide⟩ rfl ⟨by decide, by decide⟩ ⟨by decide, by decide⟩ (Nat.le_of_ble_eq_true rfl) dX12_written_39 (fun x9 h => ?_)
          refine v_if_ne (tgt := 48) dX12_written_42 (by decide) (fun c10 => ?_) (fun c10 => ?_)
          · replace h := b_wp_f c10 h
            obtain ⟨g11, h⟩ := b_wp_g h
            refine v_aload_n (f := 0) 0 rfl dX12_written_48 ?_
            refine v_getR (kf := 61) (kz := 61) rfl kd_11 rfl ⟨by decide, by decide⟩ rfl wf_12_133 dX12_written_49 ?_
            refine v_iload_n (f := 1) 1 rfl dX12_written_52 ?_
            refine v_zaload kd_200 g11 (by decide) dX12_written_53 ?_
            refine v_if_eq (tgt := 60) dX12_written_54 (by decide) (fun c12 => ?_) (fun c12 => ?_)
            · replace h := b_wp_t c12 h
              obtain ⟨g13, h⟩ := b_wp_g h
              refine v_aload_n (f := 0) 0 rfl dX12_written_60 ?_
              refine v_getR (kf := 61) (kz := 61) rfl kd_11 rfl ⟨by decide, by decide⟩ rfl wf_12_133 dX12_written_61 ?_
              refine v_iload_n (f := 1) 1 rfl dX12_written_64 ?_
              refine v_iconst ⟨by decide, by decide⟩ dX12_written_65 ?_
              refine v_zastore kd_200 g13 (by decide) (b_narz (Or.inr rfl)) dX12_written_66 ?_
              replace h := b_wp_l h
              obtain ⟨g15, h⟩ := b_wp_g h
              refine v_aload_n (f := 0) 0 rfl dX12_written_67 ?_
              refine v_getR (kf := 62) (kz := 62) rfl kd_11 rfl ⟨by decide, by decide⟩ rfl wf_12_137 dX12_written_68 ?_
              refine v_iload_n (f := 1) 1 rfl dX12_written_71 ?_
              refine v_iload_n (f := 2) 2 rfl dX12_written_72 ?_
              refine v_iastore kd_201 g15 (by decide) dX12_written_73 ?_
              replace h := b_wp_l h
              obtain ⟨g17, h⟩ := b_wp_g h
              refine v_aload_n (f := 0) 0 rfl dX12_written_74 ?_
              refine v_getR (kf := 63) (kz := 63) rfl kd_11 rfl ⟨by decide, by decide⟩ rfl wf_12_140 dX12_written_75 ?_
              refine v_iload_n (f := 1) 1 rfl dX12_written_78 ?_
              refine v_iload_n (f := 3) 3 rfl dX12_written_79 ?_
              refine v_iastore kd_202 g17 (by decide) dX12_written_80 ?_
              replace h := b_wp_l h
              obtain ⟨g19, h⟩ := b_wp_g h
              refine v_aload_n (f := 0) 0 rfl dX12_written_81 ?_
              refine v_getR (kf := 64) (kz := 64) rfl kd_11 rfl ⟨by decide, by decide⟩ rfl wf_12_143 dX12_written_82 ?_
              refine v_iload_n (f := 1) 1 rfl dX12_written_85 ?_
              refine v_iload (i := 4) 4 rfl dX12_written_86 ?_
              refine v_iastore kd_203 g19 (by decide) dX12_written_88 ?_
              replace h := b_wp_l h
              obtain ⟨g21, h⟩ := b_wp_g h
              refine v_aload_n (f := 0) 0 rfl dX12_written_89 ?_
              refine v_getR (kf := 65) (kz := 65) rfl kd_11 rfl ⟨by decide, by decide⟩ rfl wf_12_146 dX12_written_90 ?_
              refine v_iload_n (f := 1) 1 rfl dX12_written_93 ?_
              refine v_iload (i := 5) 5 rfl dX12_written_94 ?_
              refine v_iastore kd_204 g21 (by decide) dX12_written_96 ?_
              replace h := b_wp_l h
              refine v_iconst ⟨by decide, by decide⟩ dX12_written_97 ?_
              refine v_ireturn rfl dX12_written_98 ⟨by decide, by decide⟩ ?_
              exact ⟨_, rfl, h⟩
            · replace h := b_wp_f c12 h
              refine v_bipush ⟨by decide, by decide⟩ (by decide) dX12_written_57 ?_
              refine v_ireturn rfl dX12_written_59 ⟨by decide, by decide⟩ ?_
              exact ⟨_, rfl, h⟩
          · replace h := b_wp_t c10 h
            refine v_bipush ⟨by decide, by decide⟩ (by decide) dX12_written_45 ?_
            refine v_ireturn rfl dX12_written_47 ⟨by decide, by decide⟩ ?_
            exact ⟨_, rfl, h⟩
theorem c_X12_written {l : Launch} {E : bE} {M : bM} {v1 : Int} {v2 : Int} {v3 : Int} {v4 : Int} {v5 : Int} {Q : (Int × bM) → Prop} (h : b_wp (F_X12_written v1 v2 v3 v4 v5 M) Q) : b_C l E xX12_written yX12_written [bR 11, bI v1, bI v2, bI v3, bI v4, bI v5] M (b_pI Q) := b_met (by decide) ⟨rfl, rfl⟩ (Nat.le_of_ble_eq_true rfl) (fun _ _ => t_X12_written h)
abbrev xX12_pages : bX := ("BurntHallModel", prog_14_method_76_code, 3, (Option.some Jvm.ClassFile.FieldType.int), b_rm 2 0 0, 0, "pages")
abbrev yX12_pages : MethodName := ⟨"BurntHallModel", "pages", "(I)I"⟩
theorem dX12_pages_0 : decode prog_14_method_76_code 0 = .ok (.iload_n 1, 1) := by decide +kernel
theorem dX12_pages_1 : decode prog_14_method_76_code 1 = .ok (.iconst 1, 1) := by decide +kernel
theorem dX12_pages_2 : decode prog_14_method_76_code 2 = .ok (.bipush 40, 2) := by decide +kernel
theorem dX12_pages_4 : decode prog_14_method_76_code 4 = .ok (.invokestatic 279, 3) := by decide +kernel
theorem dX12_pages_7 : decode prog_14_method_76_code 7 = .ok (.ifCond .ne 6, 3) := by decide +kernel
theorem dX12_pages_10 : decode prog_14_method_76_code 10 = .ok (.bipush (-2), 2) := by decide +kernel
theorem dX12_pages_12 : decode prog_14_method_76_code 12 = .ok (.ireturn, 1) := by decide +kernel
theorem dX12_pages_13 : decode prog_14_method_76_code 13 = .ok (.aload_n 0, 1) := by decide +kernel
theorem dX12_pages_14 : decode prog_14_method_76_code 14 = .ok (.getfield 112, 3) := by decide +kernel
theorem dX12_pages_17 : decode prog_14_method_76_code 17 = .ok (.istore_n 2, 1) := by decide +kernel
theorem dX12_pages_18 : decode prog_14_method_76_code 18 = .ok (.aload_n 0, 1) := by decide +kernel
theorem dX12_pages_19 : decode prog_14_method_76_code 19 = .ok (.iload_n 1, 1) := by decide +kernel
theorem dX12_pages_20 : decode prog_14_method_76_code 20 = .ok (.putfield 112, 3) := by decide +kernel
theorem dX12_pages_23 : decode prog_14_method_76_code 23 = .ok (.iload_n 2, 1) := by decide +kernel
theorem dX12_pages_24 : decode prog_14_method_76_code 24 = .ok (.ireturn, 1) := by decide +kernel
noncomputable def F_X12_pages (v1 : Int) (M : bM) : Option (Int × bM) :=
  b_bind (F_X12_in v1 1 40 M) (fun x1 => if x1 = 0 then (some ((-2), M)) else (b_let (b_up M 11 54 v1) (fun M3 => some ((M 11 54), M3))))
theorem t_X12_pages {l : Launch} {E : bE} {Q : (Int × bM) → Prop} {v1 : Int} {M : bM} (h : b_wp (F_X12_pages v1 M) (Q)) : V l E xX12_pages (0, 0) 0 [(0, bR 11), (1, bI v1)] [] M (b_pI Q) := by
  unfold F_X12_pages at h
  refine v_iload_n (f := 1) 1 rfl dX12_pages_0 ?_
  refine v_iconst ⟨by decide, by decide⟩ dX12_pages_1 ?_
  refine v_bipush ⟨by decide, by decide⟩ (by decide) dX12_pages_2 ?_
  refine v_cSIp (nA := 3) (As := [bI _, bI _, bI _]) (ix := 279) (c_X12_in (b_wp_b h)) rfl wc_X12_in wm_12_279 wi_X12_in wn_12 ⟨by decide, by decide, by decide⟩ rfl ⟨by decide, by decide⟩ ⟨by decide, by decide⟩ (Nat.le_of_ble_eq_true rfl) dX12_pages_4 (fun x1 h => ?_)
  refine v_if_ne (tgt := 13) dX12_pages_7 (by decide) (fun c2 => ?_) (fun c2 => ?_)
  · replace h := b_wp_f c2 h
    refine v_aload_n (f := 0) 0 rfl dX12_pages_13 ?_
    refine v_getI (kf := 54) (kz := 54) rfl kd_11 rfl ⟨by decide, by decide⟩ rfl wf_12_112 dX12_pages_14 ?_
    refine v_istore_n (g := 2) (i := 2) (ls' := [(2, bI _), (0, bR _), (1, bI _)]) rfl (by decide) dX12_pages_17 rfl ?_
    refine v_aload_n (f := 0) 1 rfl dX12_pages_18 ?_
    refine v_iload_n (f := 1) 2 rfl dX12_pages_19 ?_
    refine v_putI (kf := 54) (kz := 54) rfl kd_11 rfl ⟨by decide, by decide⟩ rfl wf_12_112 rfl rfl dX12_pages_20 ?_
    replace h := b_wp_l h
    refine v_iload_n (f := 2) 0 rfl dX12_pages_23 ?_
    refine v_ireturn rfl dX12_pages_24 ⟨by decide, by decide⟩ ?_
    exact ⟨_, rfl, h⟩
  · replace h := b_wp_t c2 h
    refine v_bipush ⟨by decide, by decide⟩ (by decide) dX12_pages_10 ?_
    refine v_ireturn rfl dX12_pages_12 ⟨by decide, by decide⟩ ?_
    exact ⟨_, rfl, h⟩
theorem c_X12_pages {l : Launch} {E : bE} {M : bM} {v1 : Int} {Q : (Int × bM) → Prop} (h : b_wp (F_X12_pages v1 M) Q) : b_C l E xX12_pages yX12_pages [bR 11, bI v1] M (b_pI Q) := b_met (by decide) ⟨rfl, rfl⟩ (Nat.le_of_ble_eq_true rfl) (fun _ _ => t_X12_pages h)
abbrev xX12_sumOf : bX := ("BurntHallModel", prog_14_method_77_code, 7, (Option.some Jvm.ClassFile.FieldType.int), b_rm 1 0 0, 0, "sumOf")
abbrev yX12_sumOf : MethodName := ⟨"BurntHallModel", "sumOf", "(III)I"⟩
theorem dX12_sumOf_0 : decode prog_14_method_77_code 0 = .ok (.iconst 0, 1) := by decide +kernel
theorem dX12_sumOf_1 : decode prog_14_method_77_code 1 = .ok (.istore 4, 2) := by decide +kernel
theorem dX12_sumOf_3 : decode prog_14_method_77_code 3 = .ok (.iload_n 1, 1) := by decide +kernel
theorem dX12_sumOf_4 : decode prog_14_method_77_code 4 = .ok (.istore 5, 2) := by decide +kernel
theorem dX12_sumOf_6 : decode prog_14_method_77_code 6 = .ok (.iload 5, 2) := by decide +kernel
theorem dX12_sumOf_8 : decode prog_14_method_77_code 8 = .ok (.iload_n 1, 1) := by decide +kernel
theorem dX12_sumOf_9 : decode prog_14_method_77_code 9 = .ok (.iload_n 2, 1) := by decide +kernel
theorem dX12_sumOf_10 : decode prog_14_method_77_code 10 = .ok (.iadd, 1) := by decide +kernel
theorem dX12_sumOf_11 : decode prog_14_method_77_code 11 = .ok (.if_icmp .ge 93, 3) := by decide +kernel
theorem dX12_sumOf_14 : decode prog_14_method_77_code 14 = .ok (.iload 4, 2) := by decide +kernel
theorem dX12_sumOf_16 : decode prog_14_method_77_code 16 = .ok (.aload_n 0, 1) := by decide +kernel
theorem dX12_sumOf_17 : decode prog_14_method_77_code 17 = .ok (.getfield 109, 3) := by decide +kernel
theorem dX12_sumOf_20 : decode prog_14_method_77_code 20 = .ok (.iload 5, 2) := by decide +kernel
theorem dX12_sumOf_22 : decode prog_14_method_77_code 22 = .ok (.iaload, 1) := by decide +kernel
theorem dX12_sumOf_23 : decode prog_14_method_77_code 23 = .ok (.iadd, 1) := by decide +kernel
theorem dX12_sumOf_24 : decode prog_14_method_77_code 24 = .ok (.istore 4, 2) := by decide +kernel
theorem dX12_sumOf_26 : decode prog_14_method_77_code 26 = .ok (.iconst 0, 1) := by decide +kernel
theorem dX12_sumOf_27 : decode prog_14_method_77_code 27 = .ok (.istore 6, 2) := by decide +kernel
theorem dX12_sumOf_29 : decode prog_14_method_77_code 29 = .ok (.iload 6, 2) := by decide +kernel
theorem dX12_sumOf_31 : decode prog_14_method_77_code 31 = .ok (.aload_n 0, 1) := by decide +kernel
theorem dX12_sumOf_32 : decode prog_14_method_77_code 32 = .ok (.getfield 155, 3) := by decide +kernel
theorem dX12_sumOf_35 : decode prog_14_method_77_code 35 = .ok (.iload_n 3, 1) := by decide +kernel
theorem dX12_sumOf_36 : decode prog_14_method_77_code 36 = .ok (.iaload, 1) := by decide +kernel
theorem dX12_sumOf_37 : decode prog_14_method_77_code 37 = .ok (.if_icmp .ge 61, 3) := by decide +kernel
theorem dX12_sumOf_40 : decode prog_14_method_77_code 40 = .ok (.aload_n 0, 1) := by decide +kernel
theorem dX12_sumOf_41 : decode prog_14_method_77_code 41 = .ok (.getfield 106, 3) := by decide +kernel
theorem dX12_sumOf_44 : decode prog_14_method_77_code 44 = .ok (.iload 5, 2) := by decide +kernel
theorem dX12_sumOf_46 : decode prog_14_method_77_code 46 = .ok (.laload, 1) := by decide +kernel
theorem dX12_sumOf_47 : decode prog_14_method_77_code 47 = .ok (.lconst 0, 1) := by decide +kernel
theorem dX12_sumOf_48 : decode prog_14_method_77_code 48 = .ok (.lcmp, 1) := by decide +kernel
theorem dX12_sumOf_49 : decode prog_14_method_77_code 49 = .ok (.ifCond .eq 49, 3) := by decide +kernel
theorem dX12_sumOf_52 : decode prog_14_method_77_code 52 = .ok (.aload_n 0, 1) := by decide +kernel
theorem dX12_sumOf_53 : decode prog_14_method_77_code 53 = .ok (.getfield 149, 3) := by decide +kernel
theorem dX12_sumOf_56 : decode prog_14_method_77_code 56 = .ok (.bipush 12, 2) := by decide +kernel
theorem dX12_sumOf_58 : decode prog_14_method_77_code 58 = .ok (.iload_n 3, 1) := by decide +kernel
theorem dX12_sumOf_59 : decode prog_14_method_77_code 59 = .ok (.imul, 1) := by decide +kernel
theorem dX12_sumOf_60 : decode prog_14_method_77_code 60 = .ok (.iload 6, 2) := by decide +kernel
theorem dX12_sumOf_62 : decode prog_14_method_77_code 62 = .ok (.iadd, 1) := by decide +kernel
theorem dX12_sumOf_63 : decode prog_14_method_77_code 63 = .ok (.laload, 1) := by decide +kernel
theorem dX12_sumOf_64 : decode prog_14_method_77_code 64 = .ok (.aload_n 0, 1) := by decide +kernel
theorem dX12_sumOf_65 : decode prog_14_method_77_code 65 = .ok (.getfield 106, 3) := by decide +kernel
theorem dX12_sumOf_68 : decode prog_14_method_77_code 68 = .ok (.iload 5, 2) := by decide +kernel
theorem dX12_sumOf_70 : decode prog_14_method_77_code 70 = .ok (.laload, 1) := by decide +kernel
theorem dX12_sumOf_71 : decode prog_14_method_77_code 71 = .ok (.lcmp, 1) := by decide +kernel
theorem dX12_sumOf_72 : decode prog_14_method_77_code 72 = .ok (.ifCond .ne 20, 3) := by decide +kernel
theorem dX12_sumOf_75 : decode prog_14_method_77_code 75 = .ok (.iload 4, 2) := by decide +kernel
theorem dX12_sumOf_77 : decode prog_14_method_77_code 77 = .ok (.aload_n 0, 1) := by decide +kernel
theorem dX12_sumOf_78 : decode prog_14_method_77_code 78 = .ok (.getfield 152, 3) := by decide +kernel
theorem dX12_sumOf_81 : decode prog_14_method_77_code 81 = .ok (.bipush 12, 2) := by decide +kernel
theorem dX12_sumOf_83 : decode prog_14_method_77_code 83 = .ok (.iload_n 3, 1) := by decide +kernel
theorem dX12_sumOf_84 : decode prog_14_method_77_code 84 = .ok (.imul, 1) := by decide +kernel
theorem dX12_sumOf_85 : decode prog_14_method_77_code 85 = .ok (.iload 6, 2) := by decide +kernel
theorem dX12_sumOf_87 : decode prog_14_method_77_code 87 = .ok (.iadd, 1) := by decide +kernel
theorem dX12_sumOf_88 : decode prog_14_method_77_code 88 = .ok (.iaload, 1) := by decide +kernel
theorem dX12_sumOf_89 : decode prog_14_method_77_code 89 = .ok (.iadd, 1) := by decide +kernel
theorem dX12_sumOf_90 : decode prog_14_method_77_code 90 = .ok (.istore 4, 2) := by decide +kernel
theorem dX12_sumOf_92 : decode prog_14_method_77_code 92 = .ok (.iinc 6 1, 3) := by decide +kernel
theorem dX12_sumOf_95 : decode prog_14_method_77_code 95 = .ok (.goto (-66), 3) := by decide +kernel
theorem dX12_sumOf_98 : decode prog_14_method_77_code 98 = .ok (.iinc 5 1, 3) := by decide +kernel
theorem dX12_sumOf_101 : decode prog_14_method_77_code 101 = .ok (.goto (-95), 3) := by decide +kernel
theorem dX12_sumOf_104 : decode prog_14_method_77_code 104 = .ok (.iload 4, 2) := by decide +kernel
theorem dX12_sumOf_106 : decode prog_14_method_77_code 106 = .ok (.ireturn, 1) := by decide +kernel
abbrev A_X12_sumOf_6 (l : Launch) (E : bE) (Q : Int → Prop) (v1 : Int) (v2 : Int) (v3 : Int) (M : bM) : (Int × Int) → Prop := (fun t : Int × Int => V l E xX12_sumOf (0, 0) 6 [(0, bR 11), (1, bI v1), (2, bI v2), (3, bI v3), (4, bI (t.1)), (5, bI (t.2))] [] M (b_pIp M Q))
abbrev X_X12_sumOf_6 (l : Launch) (E : bE) (Q : Int → Prop) (v1 : Int) (v2 : Int) (v3 : Int) (M : bM) : (Int) → Prop := (fun t : Int => V l E xX12_sumOf (0, 0) 104 [(4, bI t)] [] M (b_pIp M Q))
abbrev A_X12_sumOf_29 (l : Launch) (E : bE) (Q : Int → Prop) (v1 : Int) (v2 : Int) (v3 : Int) (v5 : Int) (M : bM) : (Int × Int) → Prop := (fun t : Int × Int => V l E xX12_sumOf (0, 0) 29 [(0, bR 11), (1, bI v1), (2, bI v2), (3, bI v3), (4, bI (t.1)), (5, bI v5), (6, bI (t.2))] [] M (b_pIp M Q))
abbrev X_X12_sumOf_29 (l : Launch) (E : bE) (Q : Int → Prop) (v1 : Int) (v2 : Int) (v3 : Int) (v5 : Int) (M : bM) : (Int) → Prop := (fun t : Int => V l E xX12_sumOf (0, 0) 98 [(0, bR 11), (1, bI v1), (2, bI v2), (3, bI v3), (4, bI t), (5, bI v5)] [] M (b_pIp M Q))
noncomputable def F_X12_sumOf_s29 (v1 : Int) (v2 : Int) (v3 : Int) (v4 : Int) (v5 : Int) (v6 : Int) (M : bM) : Option ((Int × Int) ⊕ (Int)) :=
  b_g (0 ≤ v3 ∧ v3 < 121) (if (M 207 v3) ≤ v6 then (some (.inr (v4))) else (b_g (0 ≤ v5 ∧ v5 < 15552) (if (j_cmp (M 192 v5) 0) = 0 then (some (.inr (v4))) else (b_g (b_i32 (12 * v3) ∧ b_i32 ((12 * v3) + v6) ∧ (0 ≤ ((12 * v3) + v6) ∧ ((12 * v3) + v6) < 1452) ∧ (0 ≤ v5 ∧ v5 < 15552)) (if (j_cmp (M 205 ((12 * v3) + v6)) (M 192 v5)) = 0 then (b_g (b_i32 (12 * v3) ∧ b_i32 ((12 * v3) + v6) ∧ (0 ≤ ((12 * v3) + v6) ∧ ((12 * v3) + v6) < 1452) ∧ b_i32 (v4 + (M 206 ((12 * v3) + v6)))) (b_let ((v4 + (M 206 ((12 * v3) + v6)))) (fun y20 => b_g (b_i32 (v6 + 1)) (some (.inl (y20, (v6 + 1))))))) else (b_g (b_i32 (v6 + 1)) (some (.inl (v4, (v6 + 1))))))))))
theorem t_X12_sumOf_s29 {l : Launch} {E : bE} {Q : Int → Prop} {v1 : Int} {v2 : Int} {v3 : Int} {v4 : Int} {v5 : Int} {v6 : Int} {M : bM} (h : b_wp (F_X12_sumOf_s29 v1 v2 v3 v4 v5 v6 M) (Sum.elim (A_X12_sumOf_29 l E Q v1 v2 v3 v5 M) (X_X12_sumOf_29 l E Q v1 v2 v3 v5 M))) : V l E xX12_sumOf (0, 0) 29 [(0, bR 11), (1, bI v1), (2, bI v2), (3, bI v3), (4, bI v4), (5, bI v5), (6, bI v6)] [] M (b_pIp M Q) := by
  unfold F_X12_sumOf_s29 at h
  obtain ⟨g6, h⟩ := b_wp_g h
  refine v_iload (i := 6) 6 rfl dX12_sumOf_29 ?_
  refine v_aload_n (f := 0) 0 rfl dX12_sumOf_31 ?_
  refine v_getR (kf := 68) (kz := 68) rfl kd_11 rfl ⟨by decide, by decide⟩ rfl wf_12_155 dX12_sumOf_32 ?_
  refine v_iload_n (f := 3) 3 rfl dX12_sumOf_35 ?_
  refine v_iaload kd_207 g6 (by decide) dX12_sumOf_36 ?_
  refine v_icmp_ge (tgt := 98) dX12_sumOf_37 (by decide) (fun c7 => ?_) (fun c7 => ?_)
  · replace h := b_wp_t c7 h
    refine v_sub (ls2 := [(0, bR _), (1, bI _), (2, bI _), (3, bI _), (4, bI _), (5, bI _)]) [0, 1, 2, 3, 4, 5] rfl ?_
    exact h
  · replace h := b_wp_f c7 h
    obtain ⟨g8, h⟩ := b_wp_g h
    refine v_aload_n (f := 0) 0 rfl dX12_sumOf_40 ?_
    refine v_getR (kf := 46) (kz := 46) rfl kd_11 rfl ⟨by decide, by decide⟩ rfl wf_12_106 dX12_sumOf_41 ?_
    refine v_iload (i := 5) 5 rfl dX12_sumOf_44 ?_
    refine v_laload kd_192 g8 (by decide) dX12_sumOf_46 ?_
    refine v_lconst0 dX12_sumOf_47 ?_
    refine v_lcmpN dX12_sumOf_48 ?_
    refine v_if_eq (tgt := 98) dX12_sumOf_49 (by decide) (fun c9 => ?_) (fun c9 => ?_)
    · replace h := b_wp_t c9 h
      refine v_sub (ls2 := [(0, bR _), (1, bI _), (2, bI _), (3, bI _), (4, bI _), (5, bI _)]) [0, 1, 2, 3, 4, 5] rfl ?_
      exact h
    · replace h := b_wp_f c9 h
      obtain ⟨⟨g10, g11, g12, g13⟩, h⟩ := b_wp_g h
      refine v_aload_n (f := 0) 0 rfl dX12_sumOf_52 ?_
      refine v_getR (kf := 66) (kz := 66) rfl kd_11 rfl ⟨by decide, by decide⟩ rfl wf_12_149 dX12_sumOf_53 ?_
      refine v_bipush ⟨by decide, by decide⟩ (by decide) dX12_sumOf_56 ?_
      refine v_iload_n (f := 3) 3 rfl dX12_sumOf_58 ?_
      refine v_imulN g10 dX12_sumOf_59 ?_
      refine v_iload (i := 6) 6 rfl dX12_sumOf_60 ?_
      refine v_iaddN g11 dX12_sumOf_62 ?_
      refine v_laload kd_205 g12 (by decide) dX12_sumOf_63 ?_
      refine v_aload_n (f := 0) 0 rfl dX12_sumOf_64 ?_
      refine v_getR (kf := 46) (kz := 46) rfl kd_11 rfl ⟨by decide, by decide⟩ rfl wf_12_106 dX12_sumOf_65 ?_
      refine v_iload (i := 5) 5 rfl dX12_sumOf_68 ?_
      refine v_laload kd_192 g13 (by decide) dX12_sumOf_70 ?_
      refine v_lcmpN dX12_sumOf_71 ?_
      refine v_if_ne (tgt := 92) dX12_sumOf_72 (by decide) (fun c14 => ?_) (fun c14 => ?_)
      · replace h := b_wp_f c14 h
        obtain ⟨g15, h⟩ := b_wp_g h
        refine v_iincN (ls' := [(6, bI _), (0, bR _), (1, bI _), (2, bI _), (3, bI _), (4, bI _), (5, bI _)]) 6 rfl (by decide) g15 dX12_sumOf_92 rfl ?_
        refine v_goto (tgt := 29) dX12_sumOf_95 (by decide) ?_
        refine v_sub (ls2 := [(0, bR _), (1, bI _), (2, bI _), (3, bI _), (4, bI _), (5, bI _), (6, bI _)]) [1, 2, 3, 4, 5, 6, 0] rfl ?_
        exact h
      · replace h := b_wp_t c14 h
        obtain ⟨⟨g16, g17, g18, g19⟩, h⟩ := b_wp_g h
        refine v_iload (i := 4) 4 rfl dX12_sumOf_75 ?_
        refine v_aload_n (f := 0) 0 rfl dX12_sumOf_77 ?_
        refine v_getR (kf := 67) (kz := 67) rfl kd_11 rfl ⟨by decide, by decide⟩ rfl wf_12_152 dX12_sumOf_78 ?_
        refine v_bipush ⟨by decide, by decide⟩ (by decide) dX12_sumOf_81 ?_
        refine v_iload_n (f := 3) 3 rfl dX12_sumOf_83 ?_
        refine v_imulN g16 dX12_sumOf_84 ?_
        refine v_iload (i := 6) 6 rfl dX12_sumOf_85 ?_
        refine v_iaddN g17 dX12_sumOf_87 ?_
        refine v_iaload kd_206 g18 (by decide) dX12_sumOf_88 ?_
        refine v_iaddN g19 dX12_sumOf_89 ?_
        replace h := b_wp_l h
        obtain ⟨g21, h⟩ := b_wp_g h
        refine v_istore (i := 4) (ls' := [(4, bI _), (0, bR _), (1, bI _), (2, bI _), (3, bI _), (5, bI _), (6, bI _)]) (by decide) dX12_sumOf_90 rfl ?_
        refine v_iincN (ls' := [(6, bI _), (4, bI _), (0, bR _), (1, bI _), (2, bI _), (3, bI _), (5, bI _)]) 6 rfl (by decide) g21 dX12_sumOf_92 rfl ?_
        refine v_goto (tgt := 29) dX12_sumOf_95 (by decide) ?_
        refine v_sub (ls2 := [(0, bR _), (1, bI _), (2, bI _), (3, bI _), (4, bI _), (5, bI _), (6, bI _)]) [2, 3, 4, 5, 1, 6, 0] rfl ?_
        exact h
theorem l_X12_sumOf_29 {l : Launch} {E : bE} {Q : Int → Prop} {v1 : Int} {v2 : Int} {v3 : Int} {v5 : Int} {M : bM} {s : Int × Int} (h : b_wp (b_loop (fun t => F_X12_sumOf_s29 v1 v2 v3 t.1 v5 t.2 M) s) (X_X12_sumOf_29 l E Q v1 v2 v3 v5 M)) : A_X12_sumOf_29 l E Q v1 v2 v3 v5 M s := b_loop_wp (fun t h => t_X12_sumOf_s29 h) s h
noncomputable def F_X12_sumOf_b98 (v1 : Int) (v2 : Int) (v3 : Int) (v4 : Int) (v5 : Int) (M : bM) : Option ((Int × Int) ⊕ (Int)) :=
  b_g (b_i32 (v5 + 1)) (some (.inl (v4, (v5 + 1))))
theorem t_X12_sumOf_b98 {l : Launch} {E : bE} {Q : Int → Prop} {v1 : Int} {v2 : Int} {v3 : Int} {v4 : Int} {v5 : Int} {M : bM} (h : b_wp (F_X12_sumOf_b98 v1 v2 v3 v4 v5 M) (Sum.elim (A_X12_sumOf_6 l E Q v1 v2 v3 M) (X_X12_sumOf_6 l E Q v1 v2 v3 M))) : V l E xX12_sumOf (0, 0) 98 [(0, bR 11), (1, bI v1), (2, bI v2), (3, bI v3), (4, bI v4), (5, bI v5)] [] M (b_pIp M Q) := by
  unfold F_X12_sumOf_b98 at h
  obtain ⟨g22, h⟩ := b_wp_g h
  refine v_iincN (ls' := [(5, bI _), (0, bR _), (1, bI _), (2, bI _), (3, bI _), (4, bI _)]) 5 rfl (by decide) g22 dX12_sumOf_98 rfl ?_
  refine v_goto (tgt := 6) dX12_sumOf_101 (by decide) ?_
  refine v_sub (ls2 := [(0, bR _), (1, bI _), (2, bI _), (3, bI _), (4, bI _), (5, bI _)]) [1, 2, 3, 4, 5, 0] rfl ?_
  exact h
noncomputable def F_X12_sumOf_s6 (v1 : Int) (v2 : Int) (v3 : Int) (v4 : Int) (v5 : Int) (M : bM) : Option ((Int × Int) ⊕ (Int)) :=
  b_g (b_i32 (v1 + v2)) (if (v1 + v2) ≤ v5 then (some (.inr (v4))) else (b_g ((0 ≤ v5 ∧ v5 < 15552) ∧ b_i32 (v4 + (M 193 v5))) (b_let ((v4 + (M 193 v5))) (fun y5 => b_bind (b_loop (fun t => F_X12_sumOf_s29 v1 v2 v3 t.1 v5 t.2 M) (y5, 0)) (fun t => F_X12_sumOf_b98 v1 v2 v3 t v5 M)))))
theorem t_X12_sumOf_s6 {l : Launch} {E : bE} {Q : Int → Prop} {v1 : Int} {v2 : Int} {v3 : Int} {v4 : Int} {v5 : Int} {M : bM} (h : b_wp (F_X12_sumOf_s6 v1 v2 v3 v4 v5 M) (Sum.elim (A_X12_sumOf_6 l E Q v1 v2 v3 M) (X_X12_sumOf_6 l E Q v1 v2 v3 M))) : V l E xX12_sumOf (0, 0) 6 [(0, bR 11), (1, bI v1), (2, bI v2), (3, bI v3), (4, bI v4), (5, bI v5)] [] M (b_pIp M Q) := by
  unfold F_X12_sumOf_s6 at h
  obtain ⟨g1, h⟩ := b_wp_g h
  refine v_iload (i := 5) 5 rfl dX12_sumOf_6 ?_
  refine v_iload_n (f := 1) 1 rfl dX12_sumOf_8 ?_
  refine v_iload_n (f := 2) 2 rfl dX12_sumOf_9 ?_
  refine v_iaddN g1 dX12_sumOf_10 ?_
  refine v_icmp_ge (tgt := 104) dX12_sumOf_11 (by decide) (fun c2 => ?_) (fun c2 => ?_)
  · replace h := b_wp_t c2 h
    refine v_sub (ls2 := [(4, bI _)]) [4] rfl ?_
    exact h
  · replace h := b_wp_f c2 h
    obtain ⟨⟨g3, g4⟩, h⟩ := b_wp_g h
    refine v_iload (i := 4) 4 rfl dX12_sumOf_14 ?_
    refine v_aload_n (f := 0) 0 rfl dX12_sumOf_16 ?_
    refine v_getR (kf := 47) (kz := 47) rfl kd_11 rfl ⟨by decide, by decide⟩ rfl wf_12_109 dX12_sumOf_17 ?_
    refine v_iload (i := 5) 5 rfl dX12_sumOf_20 ?_
    refine v_iaload kd_193 g3 (by decide) dX12_sumOf_22 ?_
    refine v_iaddN g4 dX12_sumOf_23 ?_
    replace h := b_wp_l h
    refine v_istore (i := 4) (ls' := [(4, bI _), (0, bR _), (1, bI _), (2, bI _), (3, bI _), (5, bI _)]) (by decide) dX12_sumOf_24 rfl ?_
    refine v_iconst ⟨by decide, by decide⟩ dX12_sumOf_26 ?_
    refine v_istore (i := 6) (ls' := [(6, bI _), (4, bI _), (0, bR _), (1, bI _), (2, bI _), (3, bI _), (5, bI _)]) (by decide) dX12_sumOf_27 rfl ?_
    refine v_sub (ls2 := [(0, bR _), (1, bI _), (2, bI _), (3, bI _), (4, bI _), (5, bI _), (6, bI _)]) [2, 3, 4, 5, 1, 6, 0] rfl ?_
    refine l_X12_sumOf_29 (b_wp_m (fun t h => ?_) (b_wp_b h))
    show V l E xX12_sumOf (0, 0) 98 [(0, bR 11), (1, bI v1), (2, bI v2), (3, bI v3), (4, bI t), (5, bI v5)] [] M (b_pIp M Q)
    replace h : b_wp (F_X12_sumOf_b98 v1 v2 v3 t v5 M) _ := h
    exact t_X12_sumOf_b98 h
theorem l_X12_sumOf_6 {l : Launch} {E : bE} {Q : Int → Prop} {v1 : Int} {v2 : Int} {v3 : Int} {M : bM} {s : Int × Int} (h : b_wp (b_loop (fun t => F_X12_sumOf_s6 v1 v2 v3 t.1 t.2 M) s) (X_X12_sumOf_6 l E Q v1 v2 v3 M)) : A_X12_sumOf_6 l E Q v1 v2 v3 M s := b_loop_wp (fun t h => t_X12_sumOf_s6 h) s h
noncomputable def F_X12_sumOf_b104 (v4 : Int) (M : bM) : Option (Int) :=
  some v4
theorem t_X12_sumOf_b104 {l : Launch} {E : bE} {Q : Int → Prop} {v4 : Int} {M : bM} (h : b_wp (F_X12_sumOf_b104 v4 M) (Q)) : V l E xX12_sumOf (0, 0) 104 [(4, bI v4)] [] M (b_pIp M Q) := by
  unfold F_X12_sumOf_b104 at h
  refine v_iload (i := 4) 0 rfl dX12_sumOf_104 ?_
  refine v_ireturn rfl dX12_sumOf_106 ⟨by decide, by decide⟩ ?_
  exact ⟨_, rfl, rfl, h⟩
noncomputable def F_X12_sumOf (v1 : Int) (v2 : Int) (v3 : Int) (M : bM) : Option (Int) :=
  b_bind (b_loop (fun t => F_X12_sumOf_s6 v1 v2 v3 t.1 t.2 M) (0, v1)) (fun t => F_X12_sumOf_b104 t M)
theorem t_X12_sumOf {l : Launch} {E : bE} {Q : Int → Prop} {v1 : Int} {v2 : Int} {v3 : Int} {M : bM} (h : b_wp (F_X12_sumOf v1 v2 v3 M) (Q)) : V l E xX12_sumOf (0, 0) 0 [(0, bR 11), (1, bI v1), (2, bI v2), (3, bI v3)] [] M (b_pIp M Q) := by
  unfold F_X12_sumOf at h
  refine v_iconst ⟨by decide, by decide⟩ dX12_sumOf_0 ?_
  refine v_istore (i := 4) (ls' := [(4, bI _), (0, bR _), (1, bI _), (2, bI _), (3, bI _)]) (by decide) dX12_sumOf_1 rfl ?_
  refine v_iload_n (f := 1) 2 rfl dX12_sumOf_3 ?_
  refine v_istore (i := 5) (ls' := [(5, bI _), (4, bI _), (0, bR _), (1, bI _), (2, bI _), (3, bI _)]) (by decide) dX12_sumOf_4 rfl ?_
  refine v_sub (ls2 := [(0, bR _), (1, bI _), (2, bI _), (3, bI _), (4, bI _), (5, bI _)]) [2, 3, 4, 5, 1, 0] rfl ?_
  refine l_X12_sumOf_6 (b_wp_m (fun t h => ?_) (b_wp_b h))
  show V l E xX12_sumOf (0, 0) 104 [(4, bI t)] [] M (b_pIp M Q)
  replace h : b_wp (F_X12_sumOf_b104 t M) _ := h
  exact t_X12_sumOf_b104 h
theorem c_X12_sumOf {l : Launch} {E : bE} {M : bM} {v1 : Int} {v2 : Int} {v3 : Int} {Q : Int → Prop} (h : b_wp (F_X12_sumOf v1 v2 v3 M) Q) : b_C l E xX12_sumOf yX12_sumOf [bR 11, bI v1, bI v2, bI v3] M (b_pIp M Q) := b_met (by decide) ⟨rfl, rfl⟩ (Nat.le_of_ble_eq_true rfl) (fun _ _ => t_X12_sumOf h)
abbrev xX12_holds : bX := ("BurntHallModel", prog_14_method_78_code, 9, (Option.some Jvm.ClassFile.FieldType.boolean), b_rm 2 0 0, 0, "holds")
abbrev yX12_holds : MethodName := ⟨"BurntHallModel", "holds", "(II)Z"⟩
theorem dX12_holds_0 : decode prog_14_method_78_code 0 = .ok (.aload_n 0, 1) := by decide +kernel
theorem dX12_holds_1 : decode prog_14_method_78_code 1 = .ok (.getfield 91, 3) := by decide +kernel
theorem dX12_holds_4 : decode prog_14_method_78_code 4 = .ok (.iload_n 1, 1) := by decide +kernel
theorem dX12_holds_5 : decode prog_14_method_78_code 5 = .ok (.iaload, 1) := by decide +kernel
theorem dX12_holds_6 : decode prog_14_method_78_code 6 = .ok (.ifCond .ne 5, 3) := by decide +kernel
theorem dX12_holds_9 : decode prog_14_method_78_code 9 = .ok (.iconst 1, 1) := by decide +kernel
theorem dX12_holds_10 : decode prog_14_method_78_code 10 = .ok (.ireturn, 1) := by decide +kernel
theorem dX12_holds_11 : decode prog_14_method_78_code 11 = .ok (.iconst 0, 1) := by decide +kernel
theorem dX12_holds_12 : decode prog_14_method_78_code 12 = .ok (.istore_n 3, 1) := by decide +kernel
theorem dX12_holds_13 : decode prog_14_method_78_code 13 = .ok (.iconst 0, 1) := by decide +kernel
theorem dX12_holds_14 : decode prog_14_method_78_code 14 = .ok (.istore 4, 2) := by decide +kernel
theorem dX12_holds_16 : decode prog_14_method_78_code 16 = .ok (.iload 4, 2) := by decide +kernel
theorem dX12_holds_18 : decode prog_14_method_78_code 18 = .ok (.aload_n 0, 1) := by decide +kernel
theorem dX12_holds_19 : decode prog_14_method_78_code 19 = .ok (.getfield 91, 3) := by decide +kernel
theorem dX12_holds_22 : decode prog_14_method_78_code 22 = .ok (.iload_n 1, 1) := by decide +kernel
theorem dX12_holds_23 : decode prog_14_method_78_code 23 = .ok (.iaload, 1) := by decide +kernel
theorem dX12_holds_24 : decode prog_14_method_78_code 24 = .ok (.if_icmp .ge 280, 3) := by decide +kernel
theorem dX12_holds_27 : decode prog_14_method_78_code 27 = .ok (.aload_n 0, 1) := by decide +kernel
theorem dX12_holds_28 : decode prog_14_method_78_code 28 = .ok (.getfield 94, 3) := by decide +kernel
theorem dX12_holds_31 : decode prog_14_method_78_code 31 = .ok (.bipush 100, 2) := by decide +kernel
theorem dX12_holds_33 : decode prog_14_method_78_code 33 = .ok (.iload_n 1, 1) := by decide +kernel
theorem dX12_holds_34 : decode prog_14_method_78_code 34 = .ok (.imul, 1) := by decide +kernel
theorem dX12_holds_35 : decode prog_14_method_78_code 35 = .ok (.iload 4, 2) := by decide +kernel
theorem dX12_holds_37 : decode prog_14_method_78_code 37 = .ok (.iadd, 1) := by decide +kernel
theorem dX12_holds_38 : decode prog_14_method_78_code 38 = .ok (.iaload, 1) := by decide +kernel
theorem dX12_holds_39 : decode prog_14_method_78_code 39 = .ok (.istore 5, 2) := by decide +kernel
theorem dX12_holds_41 : decode prog_14_method_78_code 41 = .ok (.iload 5, 2) := by decide +kernel
theorem dX12_holds_43 : decode prog_14_method_78_code 43 = .ok (.ifCond .lt 151, 3) := by decide +kernel
theorem dX12_holds_46 : decode prog_14_method_78_code 46 = .ok (.bipush 12, 2) := by decide +kernel
theorem dX12_holds_48 : decode prog_14_method_78_code 48 = .ok (.iload_n 1, 1) := by decide +kernel
theorem dX12_holds_49 : decode prog_14_method_78_code 49 = .ok (.imul, 1) := by decide +kernel
theorem dX12_holds_50 : decode prog_14_method_78_code 50 = .ok (.iload 5, 2) := by decide +kernel
theorem dX12_holds_52 : decode prog_14_method_78_code 52 = .ok (.iadd, 1) := by decide +kernel
theorem dX12_holds_53 : decode prog_14_method_78_code 53 = .ok (.istore 6, 2) := by decide +kernel
theorem dX12_holds_55 : decode prog_14_method_78_code 55 = .ok (.aload_n 0, 1) := by decide +kernel
theorem dX12_holds_56 : decode prog_14_method_78_code 56 = .ok (.bipush 6, 2) := by decide +kernel
theorem dX12_holds_58 : decode prog_14_method_78_code 58 = .ok (.iload 6, 2) := by decide +kernel
theorem dX12_holds_60 : decode prog_14_method_78_code 60 = .ok (.imul, 1) := by decide +kernel
theorem dX12_holds_61 : decode prog_14_method_78_code 61 = .ok (.aload_n 0, 1) := by decide +kernel
theorem dX12_holds_62 : decode prog_14_method_78_code 62 = .ok (.getfield 100, 3) := by decide +kernel
theorem dX12_holds_65 : decode prog_14_method_78_code 65 = .ok (.iload 6, 2) := by decide +kernel
theorem dX12_holds_67 : decode prog_14_method_78_code 67 = .ok (.iaload, 1) := by decide +kernel
theorem dX12_holds_68 : decode prog_14_method_78_code 68 = .ok (.iload_n 2, 1) := by decide +kernel
theorem dX12_holds_69 : decode prog_14_method_78_code 69 = .ok (.invokevirtual 508, 3) := by decide +kernel
theorem dX12_holds_72 : decode prog_14_method_78_code 72 = .ok (.istore 7, 2) := by decide +kernel
theorem dX12_holds_74 : decode prog_14_method_78_code 74 = .ok (.aload_n 0, 1) := by decide +kernel
theorem dX12_holds_75 : decode prog_14_method_78_code 75 = .ok (.bipush 6, 2) := by decide +kernel
theorem dX12_holds_77 : decode prog_14_method_78_code 77 = .ok (.iload 6, 2) := by decide +kernel
theorem dX12_holds_79 : decode prog_14_method_78_code 79 = .ok (.imul, 1) := by decide +kernel
theorem dX12_holds_80 : decode prog_14_method_78_code 80 = .ok (.iconst 3, 1) := by decide +kernel
theorem dX12_holds_81 : decode prog_14_method_78_code 81 = .ok (.iadd, 1) := by decide +kernel
theorem dX12_holds_82 : decode prog_14_method_78_code 82 = .ok (.aload_n 0, 1) := by decide +kernel
theorem dX12_holds_83 : decode prog_14_method_78_code 83 = .ok (.getfield 103, 3) := by decide +kernel
theorem dX12_holds_86 : decode prog_14_method_78_code 86 = .ok (.iload 6, 2) := by decide +kernel
theorem dX12_holds_88 : decode prog_14_method_78_code 88 = .ok (.iaload, 1) := by decide +kernel
theorem dX12_holds_89 : decode prog_14_method_78_code 89 = .ok (.iload_n 2, 1) := by decide +kernel
theorem dX12_holds_90 : decode prog_14_method_78_code 90 = .ok (.invokevirtual 508, 3) := by decide +kernel
theorem dX12_holds_93 : decode prog_14_method_78_code 93 = .ok (.istore 8, 2) := by decide +kernel
theorem dX12_holds_95 : decode prog_14_method_78_code 95 = .ok (.aload_n 0, 1) := by decide +kernel
theorem dX12_holds_96 : decode prog_14_method_78_code 96 = .ok (.getfield 158, 3) := by decide +kernel
theorem dX12_holds_99 : decode prog_14_method_78_code 99 = .ok (.iload_n 3, 1) := by decide +kernel
theorem dX12_holds_100 : decode prog_14_method_78_code 100 = .ok (.aload_n 0, 1) := by decide +kernel
theorem dX12_holds_101 : decode prog_14_method_78_code 101 = .ok (.getfield 97, 3) := by decide +kernel
theorem dX12_holds_104 : decode prog_14_method_78_code 104 = .ok (.iload 6, 2) := by decide +kernel
theorem dX12_holds_106 : decode prog_14_method_78_code 106 = .ok (.iaload, 1) := by decide +kernel
theorem dX12_holds_107 : decode prog_14_method_78_code 107 = .ok (.ifCond .ne 16, 3) := by decide +kernel
theorem dX12_holds_110 : decode prog_14_method_78_code 110 = .ok (.iload 7, 2) := by decide +kernel
theorem dX12_holds_112 : decode prog_14_method_78_code 112 = .ok (.ifCond .le 7, 3) := by decide +kernel
theorem dX12_holds_115 : decode prog_14_method_78_code 115 = .ok (.iconst 1, 1) := by decide +kernel
theorem dX12_holds_116 : decode prog_14_method_78_code 116 = .ok (.goto 71, 3) := by decide +kernel
theorem dX12_holds_119 : decode prog_14_method_78_code 119 = .ok (.iconst 0, 1) := by decide +kernel
theorem dX12_holds_120 : decode prog_14_method_78_code 120 = .ok (.goto 67, 3) := by decide +kernel
theorem dX12_holds_123 : decode prog_14_method_78_code 123 = .ok (.aload_n 0, 1) := by decide +kernel
theorem dX12_holds_124 : decode prog_14_method_78_code 124 = .ok (.getfield 97, 3) := by decide +kernel
theorem dX12_holds_127 : decode prog_14_method_78_code 127 = .ok (.iload 6, 2) := by decide +kernel
theorem dX12_holds_129 : decode prog_14_method_78_code 129 = .ok (.iaload, 1) := by decide +kernel
theorem dX12_holds_130 : decode prog_14_method_78_code 130 = .ok (.iconst 1, 1) := by decide +kernel
theorem dX12_holds_131 : decode prog_14_method_78_code 131 = .ok (.if_icmp .ne 18, 3) := by decide +kernel
theorem dX12_holds_134 : decode prog_14_method_78_code 134 = .ok (.iload 7, 2) := by decide +kernel
theorem dX12_holds_136 : decode prog_14_method_78_code 136 = .ok (.iload 8, 2) := by decide +kernel
theorem dX12_holds_138 : decode prog_14_method_78_code 138 = .ok (.if_icmp .le 7, 3) := by decide +kernel
theorem dX12_holds_141 : decode prog_14_method_78_code 141 = .ok (.iconst 1, 1) := by decide +kernel
theorem dX12_holds_142 : decode prog_14_method_78_code 142 = .ok (.goto 45, 3) := by decide +kernel
theorem dX12_holds_145 : decode prog_14_method_78_code 145 = .ok (.iconst 0, 1) := by decide +kernel
theorem dX12_holds_146 : decode prog_14_method_78_code 146 = .ok (.goto 41, 3) := by decide +kernel
theorem dX12_holds_149 : decode prog_14_method_78_code 149 = .ok (.aload_n 0, 1) := by decide +kernel
theorem dX12_holds_150 : decode prog_14_method_78_code 150 = .ok (.getfield 97, 3) := by decide +kernel
theorem dX12_holds_153 : decode prog_14_method_78_code 153 = .ok (.iload 6, 2) := by decide +kernel
theorem dX12_holds_155 : decode prog_14_method_78_code 155 = .ok (.iaload, 1) := by decide +kernel
theorem dX12_holds_156 : decode prog_14_method_78_code 156 = .ok (.iconst 2, 1) := by decide +kernel
theorem dX12_holds_157 : decode prog_14_method_78_code 157 = .ok (.if_icmp .ne 18, 3) := by decide +kernel
theorem dX12_holds_160 : decode prog_14_method_78_code 160 = .ok (.iload 7, 2) := by decide +kernel
theorem dX12_holds_162 : decode prog_14_method_78_code 162 = .ok (.iload 8, 2) := by decide +kernel
theorem dX12_holds_164 : decode prog_14_method_78_code 164 = .ok (.if_icmp .ge 7, 3) := by decide +kernel
theorem dX12_holds_167 : decode prog_14_method_78_code 167 = .ok (.iconst 1, 1) := by decide +kernel
theorem dX12_holds_168 : decode prog_14_method_78_code 168 = .ok (.goto 19, 3) := by decide +kernel
theorem dX12_holds_171 : decode prog_14_method_78_code 171 = .ok (.iconst 0, 1) := by decide +kernel
theorem dX12_holds_172 : decode prog_14_method_78_code 172 = .ok (.goto 15, 3) := by decide +kernel
theorem dX12_holds_175 : decode prog_14_method_78_code 175 = .ok (.iload 7, 2) := by decide +kernel
theorem dX12_holds_177 : decode prog_14_method_78_code 177 = .ok (.iload 8, 2) := by decide +kernel
theorem dX12_holds_179 : decode prog_14_method_78_code 179 = .ok (.if_icmp .ne 7, 3) := by decide +kernel
theorem dX12_holds_182 : decode prog_14_method_78_code 182 = .ok (.iconst 1, 1) := by decide +kernel
theorem dX12_holds_183 : decode prog_14_method_78_code 183 = .ok (.goto 4, 3) := by decide +kernel
theorem dX12_holds_186 : decode prog_14_method_78_code 186 = .ok (.iconst 0, 1) := by decide +kernel
theorem dX12_holds_187 : decode prog_14_method_78_code 187 = .ok (.bastore, 1) := by decide +kernel
theorem dX12_holds_188 : decode prog_14_method_78_code 188 = .ok (.iinc 3 1, 3) := by decide +kernel
theorem dX12_holds_191 : decode prog_14_method_78_code 191 = .ok (.goto 107, 3) := by decide +kernel
theorem dX12_holds_194 : decode prog_14_method_78_code 194 = .ok (.iload 5, 2) := by decide +kernel
theorem dX12_holds_196 : decode prog_14_method_78_code 196 = .ok (.bipush (-3), 2) := by decide +kernel
theorem dX12_holds_198 : decode prog_14_method_78_code 198 = .ok (.if_icmp .ne 30, 3) := by decide +kernel
theorem dX12_holds_201 : decode prog_14_method_78_code 201 = .ok (.aload_n 0, 1) := by decide +kernel
theorem dX12_holds_202 : decode prog_14_method_78_code 202 = .ok (.getfield 158, 3) := by decide +kernel
theorem dX12_holds_205 : decode prog_14_method_78_code 205 = .ok (.iload_n 3, 1) := by decide +kernel
theorem dX12_holds_206 : decode prog_14_method_78_code 206 = .ok (.iconst 1, 1) := by decide +kernel
theorem dX12_holds_207 : decode prog_14_method_78_code 207 = .ok (.isub, 1) := by decide +kernel
theorem dX12_holds_208 : decode prog_14_method_78_code 208 = .ok (.aload_n 0, 1) := by decide +kernel
theorem dX12_holds_209 : decode prog_14_method_78_code 209 = .ok (.getfield 158, 3) := by decide +kernel
theorem dX12_holds_212 : decode prog_14_method_78_code 212 = .ok (.iload_n 3, 1) := by decide +kernel
theorem dX12_holds_213 : decode prog_14_method_78_code 213 = .ok (.iconst 1, 1) := by decide +kernel
theorem dX12_holds_214 : decode prog_14_method_78_code 214 = .ok (.isub, 1) := by decide +kernel
theorem dX12_holds_215 : decode prog_14_method_78_code 215 = .ok (.baload, 1) := by decide +kernel
theorem dX12_holds_216 : decode prog_14_method_78_code 216 = .ok (.ifCond .ne 7, 3) := by decide +kernel
theorem dX12_holds_219 : decode prog_14_method_78_code 219 = .ok (.iconst 1, 1) := by decide +kernel
theorem dX12_holds_220 : decode prog_14_method_78_code 220 = .ok (.goto 4, 3) := by decide +kernel
theorem dX12_holds_223 : decode prog_14_method_78_code 223 = .ok (.iconst 0, 1) := by decide +kernel
theorem dX12_holds_224 : decode prog_14_method_78_code 224 = .ok (.bastore, 1) := by decide +kernel
theorem dX12_holds_225 : decode prog_14_method_78_code 225 = .ok (.goto 73, 3) := by decide +kernel
theorem dX12_holds_228 : decode prog_14_method_78_code 228 = .ok (.iinc 3 (-1), 3) := by decide +kernel
theorem dX12_holds_231 : decode prog_14_method_78_code 231 = .ok (.aload_n 0, 1) := by decide +kernel
theorem dX12_holds_232 : decode prog_14_method_78_code 232 = .ok (.getfield 158, 3) := by decide +kernel
theorem dX12_holds_235 : decode prog_14_method_78_code 235 = .ok (.iload_n 3, 1) := by decide +kernel
theorem dX12_holds_236 : decode prog_14_method_78_code 236 = .ok (.iconst 1, 1) := by decide +kernel
theorem dX12_holds_237 : decode prog_14_method_78_code 237 = .ok (.isub, 1) := by decide +kernel
theorem dX12_holds_238 : decode prog_14_method_78_code 238 = .ok (.iload 5, 2) := by decide +kernel
theorem dX12_holds_240 : decode prog_14_method_78_code 240 = .ok (.iconst (-1), 1) := by decide +kernel
theorem dX12_holds_241 : decode prog_14_method_78_code 241 = .ok (.if_icmp .ne 31, 3) := by decide +kernel
theorem dX12_holds_244 : decode prog_14_method_78_code 244 = .ok (.aload_n 0, 1) := by decide +kernel
theorem dX12_holds_245 : decode prog_14_method_78_code 245 = .ok (.getfield 158, 3) := by decide +kernel
theorem dX12_holds_248 : decode prog_14_method_78_code 248 = .ok (.iload_n 3, 1) := by decide +kernel
theorem dX12_holds_249 : decode prog_14_method_78_code 249 = .ok (.iconst 1, 1) := by decide +kernel
theorem dX12_holds_250 : decode prog_14_method_78_code 250 = .ok (.isub, 1) := by decide +kernel
theorem dX12_holds_251 : decode prog_14_method_78_code 251 = .ok (.baload, 1) := by decide +kernel
theorem dX12_holds_252 : decode prog_14_method_78_code 252 = .ok (.ifCond .eq 16, 3) := by decide +kernel
theorem dX12_holds_255 : decode prog_14_method_78_code 255 = .ok (.aload_n 0, 1) := by decide +kernel
theorem dX12_holds_256 : decode prog_14_method_78_code 256 = .ok (.getfield 158, 3) := by decide +kernel
theorem dX12_holds_259 : decode prog_14_method_78_code 259 = .ok (.iload_n 3, 1) := by decide +kernel
theorem dX12_holds_260 : decode prog_14_method_78_code 260 = .ok (.baload, 1) := by decide +kernel
theorem dX12_holds_261 : decode prog_14_method_78_code 261 = .ok (.ifCond .eq 7, 3) := by decide +kernel
theorem dX12_holds_264 : decode prog_14_method_78_code 264 = .ok (.iconst 1, 1) := by decide +kernel
theorem dX12_holds_265 : decode prog_14_method_78_code 265 = .ok (.goto 32, 3) := by decide +kernel
theorem dX12_holds_268 : decode prog_14_method_78_code 268 = .ok (.iconst 0, 1) := by decide +kernel
theorem dX12_holds_269 : decode prog_14_method_78_code 269 = .ok (.goto 28, 3) := by decide +kernel
theorem dX12_holds_272 : decode prog_14_method_78_code 272 = .ok (.aload_n 0, 1) := by decide +kernel
theorem dX12_holds_273 : decode prog_14_method_78_code 273 = .ok (.getfield 158, 3) := by decide +kernel
theorem dX12_holds_276 : decode prog_14_method_78_code 276 = .ok (.iload_n 3, 1) := by decide +kernel
theorem dX12_holds_277 : decode prog_14_method_78_code 277 = .ok (.iconst 1, 1) := by decide +kernel
theorem dX12_holds_278 : decode prog_14_method_78_code 278 = .ok (.isub, 1) := by decide +kernel
theorem dX12_holds_279 : decode prog_14_method_78_code 279 = .ok (.baload, 1) := by decide +kernel
theorem dX12_holds_280 : decode prog_14_method_78_code 280 = .ok (.ifCond .ne 12, 3) := by decide +kernel
theorem dX12_holds_283 : decode prog_14_method_78_code 283 = .ok (.aload_n 0, 1) := by decide +kernel
theorem dX12_holds_284 : decode prog_14_method_78_code 284 = .ok (.getfield 158, 3) := by decide +kernel
theorem dX12_holds_287 : decode prog_14_method_78_code 287 = .ok (.iload_n 3, 1) := by decide +kernel
theorem dX12_holds_288 : decode prog_14_method_78_code 288 = .ok (.baload, 1) := by decide +kernel
theorem dX12_holds_289 : decode prog_14_method_78_code 289 = .ok (.ifCond .eq 7, 3) := by decide +kernel
theorem dX12_holds_292 : decode prog_14_method_78_code 292 = .ok (.iconst 1, 1) := by decide +kernel
theorem dX12_holds_293 : decode prog_14_method_78_code 293 = .ok (.goto 4, 3) := by decide +kernel
theorem dX12_holds_296 : decode prog_14_method_78_code 296 = .ok (.iconst 0, 1) := by decide +kernel
theorem dX12_holds_297 : decode prog_14_method_78_code 297 = .ok (.bastore, 1) := by decide +kernel
theorem dX12_holds_298 : decode prog_14_method_78_code 298 = .ok (.iinc 4 1, 3) := by decide +kernel
theorem dX12_holds_301 : decode prog_14_method_78_code 301 = .ok (.goto (-285), 3) := by decide +kernel
theorem dX12_holds_304 : decode prog_14_method_78_code 304 = .ok (.aload_n 0, 1) := by decide +kernel
theorem dX12_holds_305 : decode prog_14_method_78_code 305 = .ok (.getfield 158, 3) := by decide +kernel
theorem dX12_holds_308 : decode prog_14_method_78_code 308 = .ok (.iconst 0, 1) := by decide +kernel
theorem dX12_holds_309 : decode prog_14_method_78_code 309 = .ok (.baload, 1) := by decide +kernel
theorem dX12_holds_310 : decode prog_14_method_78_code 310 = .ok (.ireturn, 1) := by decide +kernel
abbrev A_X12_holds_16 (l : Launch) (E : bE) (Q : (Int × bM) → Prop) (v1 : Int) (v2 : Int) : (Int × Int × bM) → Prop := (fun t : Int × Int × bM => V l E xX12_holds (0, 0) 16 [(0, bR 11), (1, bI v1), (2, bI v2), (3, bI (t.1)), (4, bI (t.2.1))] [] t.2.2 (b_pI Q))
abbrev X_X12_holds_16 (l : Launch) (E : bE) (Q : (Int × bM) → Prop) (v1 : Int) (v2 : Int) : (bM) → Prop := (fun t : bM => V l E xX12_holds (0, 0) 304 [(0, bR 11)] [] t (b_pI Q))
noncomputable def F_X12_holds_b297 (v1 : Int) (v2 : Int) (v3 : Int) (v4 : Int) (u1 : Int) (u2 : Int) (M : bM) : Option ((Int × Int × bM) ⊕ (bM)) :=
  b_g ((0 ≤ u1 ∧ u1 < 120) ∧ (u2 = 0 ∨ u2 = 1)) (b_let (b_up M 208 u1 u2) (fun M19 => b_g (b_i32 (v4 + 1)) (some (.inl (v3, (v4 + 1), M19)))))
theorem t_X12_holds_b297 {l : Launch} {E : bE} {Q : (Int × bM) → Prop} {v1 : Int} {v2 : Int} {v3 : Int} {v4 : Int} {u1 : Int} {u2 : Int} {M : bM} (h : b_wp (F_X12_holds_b297 v1 v2 v3 v4 u1 u2 M) (Sum.elim (A_X12_holds_16 l E Q v1 v2) (X_X12_holds_16 l E Q v1 v2))) : V l E xX12_holds (0, 0) 297 [(0, bR 11), (1, bI v1), (2, bI v2), (3, bI v3), (4, bI v4)] [bI u2, bI u1, bR 208] M (b_pI Q) := by
  unfold F_X12_holds_b297 at h
  obtain ⟨⟨g17, g18⟩, h⟩ := b_wp_g h
  refine v_zastore kd_208 g17 (by decide) (b_narz g18) dX12_holds_297 ?_
  replace h := b_wp_l h
  obtain ⟨g20, h⟩ := b_wp_g h
  refine v_iincN (ls' := [(4, bI _), (0, bR _), (1, bI _), (2, bI _), (3, bI _)]) 4 rfl (by decide) g20 dX12_holds_298 rfl ?_
  refine v_goto (tgt := 16) dX12_holds_301 (by decide) ?_
  refine v_sub (ls2 := [(0, bR _), (1, bI _), (2, bI _), (3, bI _), (4, bI _)]) [1, 2, 3, 4, 0] rfl ?_
  exact h
noncomputable def F_X12_holds_b292 (v1 : Int) (v2 : Int) (v3 : Int) (v4 : Int) (u1 : Int) (M : bM) : Option ((Int × Int × bM) ⊕ (bM)) :=
  F_X12_holds_b297 v1 v2 v3 v4 u1 1 M
theorem t_X12_holds_b292 {l : Launch} {E : bE} {Q : (Int × bM) → Prop} {v1 : Int} {v2 : Int} {v3 : Int} {v4 : Int} {u1 : Int} {M : bM} (h : b_wp (F_X12_holds_b292 v1 v2 v3 v4 u1 M) (Sum.elim (A_X12_holds_16 l E Q v1 v2) (X_X12_holds_16 l E Q v1 v2))) : V l E xX12_holds (0, 0) 292 [(0, bR 11), (1, bI v1), (2, bI v2), (3, bI v3), (4, bI v4)] [bI u1, bR 208] M (b_pI Q) := by
  unfold F_X12_holds_b292 at h
  refine v_iconst ⟨by decide, by decide⟩ dX12_holds_292 ?_
  refine v_goto (tgt := 297) dX12_holds_293 (by decide) ?_
  exact t_X12_holds_b297 h
noncomputable def F_X12_holds_b268 (v1 : Int) (v2 : Int) (v3 : Int) (v4 : Int) (u1 : Int) (M : bM) : Option ((Int × Int × bM) ⊕ (bM)) :=
  F_X12_holds_b297 v1 v2 v3 v4 u1 0 M
theorem t_X12_holds_b268 {l : Launch} {E : bE} {Q : (Int × bM) → Prop} {v1 : Int} {v2 : Int} {v3 : Int} {v4 : Int} {u1 : Int} {M : bM} (h : b_wp (F_X12_holds_b268 v1 v2 v3 v4 u1 M) (Sum.elim (A_X12_holds_16 l E Q v1 v2) (X_X12_holds_16 l E Q v1 v2))) : V l E xX12_holds (0, 0) 268 [(0, bR 11), (1, bI v1), (2, bI v2), (3, bI v3), (4, bI v4)] [bI u1, bR 208] M (b_pI Q) := by
  unfold F_X12_holds_b268 at h
  refine v_iconst ⟨by decide, by decide⟩ dX12_holds_268 ?_
  refine v_goto (tgt := 297) dX12_holds_269 (by decide) ?_
  exact t_X12_holds_b297 h
noncomputable def F_X12_holds_b224 (v1 : Int) (v2 : Int) (v3 : Int) (v4 : Int) (u1 : Int) (u2 : Int) (M : bM) : Option ((Int × Int × bM) ⊕ (bM)) :=
  b_g ((0 ≤ u1 ∧ u1 < 120) ∧ (u2 = 0 ∨ u2 = 1)) (b_let (b_up M 208 u1 u2) (fun M33 => b_g (b_i32 (v4 + 1)) (some (.inl (v3, (v4 + 1), M33)))))
theorem t_X12_holds_b224 {l : Launch} {E : bE} {Q : (Int × bM) → Prop} {v1 : Int} {v2 : Int} {v3 : Int} {v4 : Int} {u1 : Int} {u2 : Int} {M : bM} (h : b_wp (F_X12_holds_b224 v1 v2 v3 v4 u1 u2 M) (Sum.elim (A_X12_holds_16 l E Q v1 v2) (X_X12_holds_16 l E Q v1 v2))) : V l E xX12_holds (0, 0) 224 [(0, bR 11), (1, bI v1), (2, bI v2), (3, bI v3), (4, bI v4)] [bI u2, bI u1, bR 208] M (b_pI Q) := by
  unfold F_X12_holds_b224 at h
  obtain ⟨⟨g31, g32⟩, h⟩ := b_wp_g h
  refine v_zastore kd_208 g31 (by decide) (b_narz g32) dX12_holds_224 ?_
  replace h := b_wp_l h
  obtain ⟨g34, h⟩ := b_wp_g h
  refine v_goto (tgt := 298) dX12_holds_225 (by decide) ?_
  refine v_iincN (ls' := [(4, bI _), (0, bR _), (1, bI _), (2, bI _), (3, bI _)]) 4 rfl (by decide) g34 dX12_holds_298 rfl ?_
  refine v_goto (tgt := 16) dX12_holds_301 (by decide) ?_
  refine v_sub (ls2 := [(0, bR _), (1, bI _), (2, bI _), (3, bI _), (4, bI _)]) [1, 2, 3, 4, 0] rfl ?_
  exact h
noncomputable def F_X12_holds_b187 (v1 : Int) (v2 : Int) (v3 : Int) (v4 : Int) (u1 : Int) (u2 : Int) (M : bM) : Option ((Int × Int × bM) ⊕ (bM)) :=
  b_g ((0 ≤ u1 ∧ u1 < 120) ∧ (u2 = 0 ∨ u2 = 1)) (b_let (b_up M 208 u1 u2) (fun M54 => b_g (b_i32 (v3 + 1) ∧ b_i32 (v4 + 1)) (some (.inl ((v3 + 1), (v4 + 1), M54)))))
theorem t_X12_holds_b187 {l : Launch} {E : bE} {Q : (Int × bM) → Prop} {v1 : Int} {v2 : Int} {v3 : Int} {v4 : Int} {u1 : Int} {u2 : Int} {M : bM} (h : b_wp (F_X12_holds_b187 v1 v2 v3 v4 u1 u2 M) (Sum.elim (A_X12_holds_16 l E Q v1 v2) (X_X12_holds_16 l E Q v1 v2))) : V l E xX12_holds (0, 0) 187 [(0, bR 11), (1, bI v1), (2, bI v2), (3, bI v3), (4, bI v4)] [bI u2, bI u1, bR 208] M (b_pI Q) := by
  unfold F_X12_holds_b187 at h
  obtain ⟨⟨g52, g53⟩, h⟩ := b_wp_g h
  refine v_zastore kd_208 g52 (by decide) (b_narz g53) dX12_holds_187 ?_
  replace h := b_wp_l h
  obtain ⟨⟨g55, g56⟩, h⟩ := b_wp_g h
  refine v_iincN (ls' := [(3, bI _), (0, bR _), (1, bI _), (2, bI _), (4, bI _)]) 3 rfl (by decide) g55 dX12_holds_188 rfl ?_
  refine v_goto (tgt := 298) dX12_holds_191 (by decide) ?_
  refine v_iincN (ls' := [(4, bI _), (3, bI _), (0, bR _), (1, bI _), (2, bI _)]) 4 rfl (by decide) g56 dX12_holds_298 rfl ?_
  refine v_goto (tgt := 16) dX12_holds_301 (by decide) ?_
  refine v_sub (ls2 := [(0, bR _), (1, bI _), (2, bI _), (3, bI _), (4, bI _)]) [2, 3, 4, 1, 0] rfl ?_
  exact h
noncomputable def F_X12_holds_s16 (v1 : Int) (v2 : Int) (v3 : Int) (v4 : Int) (M : bM) : Option ((Int × Int × bM) ⊕ (bM)) :=
  b_g (0 ≤ v1 ∧ v1 < 216) (if (M 187 v1) ≤ v4 then (some (.inr (M))) else (b_g (b_i32 (100 * v1) ∧ b_i32 ((100 * v1) + v4) ∧ (0 ≤ ((100 * v1) + v4) ∧ ((100 * v1) + v4) < 21600)) (b_let ((M 188 ((100 * v1) + v4))) (fun y8 => if y8 < 0 then (if y8 = (-3) then (b_g (b_i32 (v3 - 1) ∧ (0 ≤ (v3 - 1) ∧ (v3 - 1) < 120)) (if (M 208 (v3 - 1)) = 0 then (F_X12_holds_b224 v1 v2 v3 v4 (v3 - 1) 1 M) else (F_X12_holds_b224 v1 v2 v3 v4 (v3 - 1) 0 M))) else (b_g (b_i32 (v3 + (-1)) ∧ b_i32 ((v3 + (-1)) - 1)) (if y8 = (-1) then (b_g (b_i32 ((v3 + (-1)) - 1) ∧ (0 ≤ ((v3 + (-1)) - 1) ∧ ((v3 + (-1)) - 1) < 120)) (if (M 208 ((v3 + (-1)) - 1)) = 0 then (F_X12_holds_b268 v1 v2 (v3 + (-1)) v4 ((v3 + (-1)) - 1) M) else (b_g (0 ≤ (v3 + (-1)) ∧ (v3 + (-1)) < 120) (if (M 208 (v3 + (-1))) = 0 then (F_X12_holds_b268 v1 v2 (v3 + (-1)) v4 ((v3 + (-1)) - 1) M) else (F_X12_holds_b297 v1 v2 (v3 + (-1)) v4 ((v3 + (-1)) - 1) 1 M))))) else (b_g (b_i32 ((v3 + (-1)) - 1) ∧ (0 ≤ ((v3 + (-1)) - 1) ∧ ((v3 + (-1)) - 1) < 120)) (if (M 208 ((v3 + (-1)) - 1)) = 0 then (b_g (0 ≤ (v3 + (-1)) ∧ (v3 + (-1)) < 120) (if (M 208 (v3 + (-1))) = 0 then (F_X12_holds_b297 v1 v2 (v3 + (-1)) v4 ((v3 + (-1)) - 1) 0 M) else (F_X12_holds_b292 v1 v2 (v3 + (-1)) v4 ((v3 + (-1)) - 1) M))) else (F_X12_holds_b292 v1 v2 (v3 + (-1)) v4 ((v3 + (-1)) - 1) M)))))) else (b_g (b_i32 (12 * v1) ∧ b_i32 ((12 * v1) + y8)) (b_let (((12 * v1) + y8)) (fun y37 => b_g (b_i32 (6 * y37) ∧ (0 ≤ y37 ∧ y37 < 2592)) (b_bind (F_X12_sumOf (6 * y37) (M 190 y37) v2 M) (fun x40 => b_g (b_i32 (6 * y37) ∧ b_i32 ((6 * y37) + 3) ∧ (0 ≤ y37 ∧ y37 < 2592)) (b_bind (F_X12_sumOf ((6 * y37) + 3) (M 191 y37) v2 M) (fun x44 => b_g (0 ≤ y37 ∧ y37 < 2592) (if (M 189 y37) = 0 then (if x40 ≤ 0 then (F_X12_holds_b187 v1 v2 v3 v4 v3 0 M) else (F_X12_holds_b187 v1 v2 v3 v4 v3 1 M)) else (b_g (0 ≤ y37 ∧ y37 < 2592) (if (M 189 y37) = 1 then (if x40 ≤ x44 then (F_X12_holds_b187 v1 v2 v3 v4 v3 0 M) else (F_X12_holds_b187 v1 v2 v3 v4 v3 1 M)) else (b_g (0 ≤ y37 ∧ y37 < 2592) (if (M 189 y37) = 2 then (if x44 ≤ x40 then (F_X12_holds_b187 v1 v2 v3 v4 v3 0 M) else (F_X12_holds_b187 v1 v2 v3 v4 v3 1 M)) else (if x40 = x44 then (F_X12_holds_b187 v1 v2 v3 v4 v3 1 M) else (F_X12_holds_b187 v1 v2 v3 v4 v3 0 M))))))))))))))))))
theorem t_X12_holds_s16 {l : Launch} {E : bE} {Q : (Int × bM) → Prop} {v1 : Int} {v2 : Int} {v3 : Int} {v4 : Int} {M : bM} (h : b_wp (F_X12_holds_s16 v1 v2 v3 v4 M) (Sum.elim (A_X12_holds_16 l E Q v1 v2) (X_X12_holds_16 l E Q v1 v2))) : V l E xX12_holds (0, 0) 16 [(0, bR 11), (1, bI v1), (2, bI v2), (3, bI v3), (4, bI v4)] [] M (b_pI Q) := by
  unfold F_X12_holds_s16 at h
  obtain ⟨g3, h⟩ := b_wp_g h
  refine v_iload (i := 4) 4 rfl dX12_holds_16 ?_
  refine v_aload_n (f := 0) 0 rfl dX12_holds_18 ?_
  refine v_getR (kf := 41) (kz := 41) rfl kd_11 rfl ⟨by decide, by decide⟩ rfl wf_12_91 dX12_holds_19 ?_
  refine v_iload_n (f := 1) 1 rfl dX12_holds_22 ?_
  refine v_iaload kd_187 g3 (by decide) dX12_holds_23 ?_
  refine v_icmp_ge (tgt := 304) dX12_holds_24 (by decide) (fun c4 => ?_) (fun c4 => ?_)
  · replace h := b_wp_t c4 h
    refine v_sub (ls2 := [(0, bR _)]) [0] rfl ?_
    exact h
  · replace h := b_wp_f c4 h
    obtain ⟨⟨g5, g6, g7⟩, h⟩ := b_wp_g h
    refine v_aload_n (f := 0) 0 rfl dX12_holds_27 ?_
    refine v_getR (kf := 42) (kz := 42) rfl kd_11 rfl ⟨by decide, by decide⟩ rfl wf_12_94 dX12_holds_28 ?_
    refine v_bipush ⟨by decide, by decide⟩ (by decide) dX12_holds_31 ?_
    refine v_iload_n (f := 1) 1 rfl dX12_holds_33 ?_
    refine v_imulN g5 dX12_holds_34 ?_
    refine v_iload (i := 4) 4 rfl dX12_holds_35 ?_
    refine v_iaddN g6 dX12_holds_37 ?_
    refine v_iaload kd_188 g7 (by decide) dX12_holds_38 ?_
    replace h := b_wp_l h
    refine v_istore (i := 5) (ls' := [(5, bI _), (0, bR _), (1, bI _), (2, bI _), (3, bI _), (4, bI _)]) (by decide) dX12_holds_39 rfl ?_
    refine v_iload (i := 5) 0 rfl dX12_holds_41 ?_
    refine v_if_lt (tgt := 194) dX12_holds_43 (by decide) (fun c9 => ?_) (fun c9 => ?_)
    · replace h := b_wp_t c9 h
      refine v_iload (i := 5) 0 rfl dX12_holds_194 ?_
      refine v_bipush ⟨by decide, by decide⟩ (by decide) dX12_holds_196 ?_
      refine v_icmp_ne (tgt := 228) dX12_holds_198 (by decide) (fun c10 => ?_) (fun c10 => ?_)
      · replace h := b_wp_f c10 h
        obtain ⟨⟨g11, g12⟩, h⟩ := b_wp_g h
        refine v_iincN (ls' := [(3, bI _), (5, bI _), (0, bR _), (1, bI _), (2, bI _), (4, bI _)]) 4 rfl (by decide) g11 dX12_holds_228 rfl ?_
        refine v_aload_n (f := 0) 2 rfl dX12_holds_231 ?_
        refine v_getR (kf := 69) (kz := 69) rfl kd_11 rfl ⟨by decide, by decide⟩ rfl wf_12_158 dX12_holds_232 ?_
        refine v_iload_n (f := 3) 0 rfl dX12_holds_235 ?_
        refine v_iconst ⟨by decide, by decide⟩ dX12_holds_236 ?_
        refine v_isubN g12 dX12_holds_237 ?_
        refine v_iload (i := 5) 1 rfl dX12_holds_238 ?_
        refine v_iconst ⟨by decide, by decide⟩ dX12_holds_240 ?_
        refine v_icmp_ne (tgt := 272) dX12_holds_241 (by decide) (fun c13 => ?_) (fun c13 => ?_)
        · replace h := b_wp_f c13 h
          obtain ⟨⟨g14, g15⟩, h⟩ := b_wp_g h
          refine v_aload_n (f := 0) 2 rfl dX12_holds_272 ?_
          refine v_getR (kf := 69) (kz := 69) rfl kd_11 rfl ⟨by decide, by decide⟩ rfl wf_12_158 dX12_holds_273 ?_
          refine v_iload_n (f := 3) 0 rfl dX12_holds_276 ?_
          refine v_iconst ⟨by decide, by decide⟩ dX12_holds_277 ?_
          refine v_isubN g14 dX12_holds_278 ?_
          refine v_zaload kd_208 g15 (by decide) dX12_holds_279 ?_
          refine v_if_ne (tgt := 292) dX12_holds_280 (by decide) (fun c16 => ?_) (fun c16 => ?_)
          · replace h := b_wp_f c16 h
            refine v_sub (ls2 := [(0, bR _), (1, bI _), (2, bI _), (3, bI _), (4, bI _)]) [2, 3, 4, 0, 5] rfl ?_
            exact t_X12_holds_b292 h
          · replace h := b_wp_t c16 h
            obtain ⟨g21, h⟩ := b_wp_g h
            refine v_aload_n (f := 0) 2 rfl dX12_holds_283 ?_
            refine v_getR (kf := 69) (kz := 69) rfl kd_11 rfl ⟨by decide, by decide⟩ rfl wf_12_158 dX12_holds_284 ?_
            refine v_iload_n (f := 3) 0 rfl dX12_holds_287 ?_
            refine v_zaload kd_208 g21 (by decide) dX12_holds_288 ?_
            refine v_if_eq (tgt := 296) dX12_holds_289 (by decide) (fun c22 => ?_) (fun c22 => ?_)
            · replace h := b_wp_t c22 h
              refine v_iconst ⟨by decide, by decide⟩ dX12_holds_296 ?_
              refine v_sub (ls2 := [(0, bR _), (1, bI _), (2, bI _), (3, bI _), (4, bI _)]) [2, 3, 4, 0, 5] rfl ?_
              exact t_X12_holds_b297 h
            · replace h := b_wp_f c22 h
              refine v_sub (ls2 := [(0, bR _), (1, bI _), (2, bI _), (3, bI _), (4, bI _)]) [2, 3, 4, 0, 5] rfl ?_
              exact t_X12_holds_b292 h
        · replace h := b_wp_t c13 h
          obtain ⟨⟨g23, g24⟩, h⟩ := b_wp_g h
          refine v_aload_n (f := 0) 2 rfl dX12_holds_244 ?_
          refine v_getR (kf := 69) (kz := 69) rfl kd_11 rfl ⟨by decide, by decide⟩ rfl wf_12_158 dX12_holds_245 ?_
          refine v_iload_n (f := 3) 0 rfl dX12_holds_248 ?_
          refine v_iconst ⟨by decide, by decide⟩ dX12_holds_249 ?_
          refine v_isubN g23 dX12_holds_250 ?_
          refine v_zaload kd_208 g24 (by decide) dX12_holds_251 ?_
          refine v_if_eq (tgt := 268) dX12_holds_252 (by decide) (fun c25 => ?_) (fun c25 => ?_)
          · replace h := b_wp_t c25 h
            refine v_sub (ls2 := [(0, bR _), (1, bI _), (2, bI _), (3, bI _), (4, bI _)]) [2, 3, 4, 0, 5] rfl ?_
            exact t_X12_holds_b268 h
          · replace h := b_wp_f c25 h
            obtain ⟨g26, h⟩ := b_wp_g h
            refine v_aload_n (f := 0) 2 rfl dX12_holds_255 ?_
            refine v_getR (kf := 69) (kz := 69) rfl kd_11 rfl ⟨by decide, by decide⟩ rfl wf_12_158 dX12_holds_256 ?_
            refine v_iload_n (f := 3) 0 rfl dX12_holds_259 ?_
            refine v_zaload kd_208 g26 (by decide) dX12_holds_260 ?_
            refine v_if_eq (tgt := 268) dX12_holds_261 (by decide) (fun c27 => ?_) (fun c27 => ?_)
            · replace h := b_wp_t c27 h
              refine v_sub (ls2 := [(0, bR _), (1, bI _), (2, bI _), (3, bI _), (4, bI _)]) [2, 3, 4, 0, 5] rfl ?_
              exact t_X12_holds_b268 h
            · replace h := b_wp_f c27 h
              refine v_iconst ⟨by decide, by decide⟩ dX12_holds_264 ?_
              refine v_goto (tgt := 297) dX12_holds_265 (by decide) ?_
              refine v_sub (ls2 := [(0, bR _), (1, bI _), (2, bI _), (3, bI _), (4, bI _)]) [2, 3, 4, 0, 5] rfl ?_
              exact t_X12_holds_b297 h
      · replace h := b_wp_t c10 h
        obtain ⟨⟨g28, g29⟩, h⟩ := b_wp_g h
        refine v_aload_n (f := 0) 1 rfl dX12_holds_201 ?_
        refine v_getR (kf := 69) (kz := 69) rfl kd_11 rfl ⟨by decide, by decide⟩ rfl wf_12_158 dX12_holds_202 ?_
        refine v_iload_n (f := 3) 4 rfl dX12_holds_205 ?_
        refine v_iconst ⟨by decide, by decide⟩ dX12_holds_206 ?_
        refine v_isubN g28 dX12_holds_207 ?_
        refine v_aload_n (f := 0) 1 rfl dX12_holds_208 ?_
        refine v_getR (kf := 69) (kz := 69) rfl kd_11 rfl ⟨by decide, by decide⟩ rfl wf_12_158 dX12_holds_209 ?_
        refine v_iload_n (f := 3) 4 rfl dX12_holds_212 ?_
        refine v_iconst ⟨by decide, by decide⟩ dX12_holds_213 ?_
        refine v_isubN g28 dX12_holds_214 ?_
        refine v_zaload kd_208 g29 (by decide) dX12_holds_215 ?_
        refine v_if_ne (tgt := 223) dX12_holds_216 (by decide) (fun c30 => ?_) (fun c30 => ?_)
        · replace h := b_wp_f c30 h
          refine v_iconst ⟨by decide, by decide⟩ dX12_holds_223 ?_
          refine v_sub (ls2 := [(0, bR _), (1, bI _), (2, bI _), (3, bI _), (4, bI _)]) [1, 2, 3, 4, 5] rfl ?_
          exact t_X12_holds_b224 h
        · replace h := b_wp_t c30 h
          refine v_iconst ⟨by decide, by decide⟩ dX12_holds_219 ?_
          refine v_goto (tgt := 224) dX12_holds_220 (by decide) ?_
          refine v_sub (ls2 := [(0, bR _), (1, bI _), (2, bI _), (3, bI _), (4, bI _)]) [1, 2, 3, 4, 5] rfl ?_
          exact t_X12_holds_b224 h
    · replace h := b_wp_f c9 h
      obtain ⟨⟨g35, g36⟩, h⟩ := b_wp_g h
      refine v_bipush ⟨by decide, by decide⟩ (by decide) dX12_holds_46 ?_
      refine v_iload_n (f := 1) 2 rfl dX12_holds_48 ?_
      refine v_imulN g35 dX12_holds_49 ?_
      refine v_iload (i := 5) 0 rfl dX12_holds_50 ?_
      refine v_iaddN g36 dX12_holds_52 ?_
      replace h := b_wp_l h
      obtain ⟨⟨g38, g39⟩, h⟩ := b_wp_g h
      refine v_istore (i := 6) (ls' := [(6, bI _), (5, bI _), (0, bR _), (1, bI _), (2, bI _), (3, bI _), (4, bI _)]) (by decide) dX12_holds_53 rfl ?_
      refine v_aload_n (f := 0) 2 rfl dX12_holds_55 ?_
      refine v_bipush ⟨by decide, by decide⟩ (by decide) dX12_holds_56 ?_
      refine v_iload (i := 6) 0 rfl dX12_holds_58 ?_
      refine v_imulN g38 dX12_holds_60 ?_
      refine v_aload_n (f := 0) 2 rfl dX12_holds_61 ?_
      refine v_getR (kf := 44) (kz := 44) rfl kd_11 rfl ⟨by decide, by decide⟩ rfl wf_12_100 dX12_holds_62 ?_
      refine v_iload (i := 6) 0 rfl dX12_holds_65 ?_
      refine v_iaload kd_190 g39 (by decide) dX12_holds_67 ?_
      refine v_iload_n (f := 2) 4 rfl dX12_holds_68 ?_
      refine v_cVIp (nA := 3) (As := [bI _, bI _, bI _]) (ix := 508) (c_X12_sumOf (b_wp_b h)) rfl kd_11 rfl rfl wc_X12_sumOf wm_12_508 wi_X12_sumOf ws_X12_sumOf wn_12 ⟨by decide, by decide, by decide⟩ rfl ⟨by decide, by decide⟩ ⟨by decide, by decide⟩ (Nat.le_of_ble_eq_true rfl) dX12_holds_69 (fun x40 h => ?_)
      obtain ⟨⟨g41, g42, g43⟩, h⟩ := b_wp_g h
      refine v_istore (i := 7) (ls' := [(7, bI _), (6, bI _), (5, bI _), (0, bR _), (1, bI _), (2, bI _), (3, bI _), (4, bI _)]) (by decide) dX12_holds_72 rfl ?_
      refine v_aload_n (f := 0) 3 rfl dX12_holds_74 ?_
      refine v_bipush ⟨by decide, by decide⟩ (by decide) dX12_holds_75 ?_
      refine v_iload (i := 6) 1 rfl dX12_holds_77 ?_
      refine v_imulN g41 dX12_holds_79 ?_
      refine v_iconst ⟨by decide, by decide⟩ dX12_holds_80 ?_
      refine v_iaddN g42 dX12_holds_81 ?_
      refine v_aload_n (f := 0) 3 rfl dX12_holds_82 ?_
      refine v_getR (kf := 45) (kz := 45) rfl kd_11 rfl ⟨by decide, by decide⟩ rfl wf_12_103 dX12_holds_83 ?_
      refine v_iload (i := 6) 1 rfl dX12_holds_86 ?_
      refine v_iaload kd_191 g43 (by decide) dX12_holds_88 ?_
      refine v_iload_n (f := 2) 5 rfl dX12_holds_89 ?_
      refine v_cVIp (nA := 3) (As := [bI _, bI _, bI _]) (ix := 508) (c_X12_sumOf (b_wp_b h)) rfl kd_11 rfl rfl wc_X12_sumOf wm_12_508 wi_X12_sumOf ws_X12_sumOf wn_12 ⟨by decide, by decide, by decide⟩ rfl ⟨by decide, by decide⟩ ⟨by decide, by decide⟩ (Nat.le_of_ble_eq_true rfl) dX12_holds_90 (fun x44 h => ?_)
      obtain ⟨g45, h⟩ := b_wp_g h
      refine v_istore (i := 8) (ls' := [(8, bI _), (7, bI _), (6, bI _), (5, bI _), (0, bR _), (1, bI _), (2, bI _), (3, bI _), (4, bI _)]) (by decide) dX12_holds_93 rfl ?_
      refine v_aload_n (f := 0) 4 rfl dX12_holds_95 ?_
      refine v_getR (kf := 69) (kz := 69) rfl kd_11 rfl ⟨by decide, by decide⟩ rfl wf_12_158 dX12_holds_96 ?_
      refine v_iload_n (f := 3) 7 rfl dX12_holds_99 ?_
      refine v_aload_n (f := 0) 4 rfl dX12_holds_100 ?_
      refine v_getR (kf := 43) (kz := 43) rfl kd_11 rfl ⟨by decide, by decide⟩ rfl wf_12_97 dX12_holds_101 ?_
      refine v_iload (i := 6) 2 rfl dX12_holds_104 ?_
      refine v_iaload kd_189 g45 (by decide) dX12_holds_106 ?_
      refine v_if_ne (tgt := 123) dX12_holds_107 (by decide) (fun c46 => ?_) (fun c46 => ?_)
      · replace h := b_wp_f c46 h
        obtain ⟨g47, h⟩ := b_wp_g h
        refine v_aload_n (f := 0) 4 rfl dX12_holds_123 ?_
        refine v_getR (kf := 43) (kz := 43) rfl kd_11 rfl ⟨by decide, by decide⟩ rfl wf_12_97 dX12_holds_124 ?_
        refine v_iload (i := 6) 2 rfl dX12_holds_127 ?_
        refine v_iaload kd_189 g47 (by decide) dX12_holds_129 ?_
        refine v_iconst ⟨by decide, by decide⟩ dX12_holds_130 ?_
        refine v_icmp_ne (tgt := 149) dX12_holds_131 (by decide) (fun c48 => ?_) (fun c48 => ?_)
        · replace h := b_wp_f c48 h
          obtain ⟨g49, h⟩ := b_wp_g h
          refine v_aload_n (f := 0) 4 rfl dX12_holds_149 ?_
          refine v_getR (kf := 43) (kz := 43) rfl kd_11 rfl ⟨by decide, by decide⟩ rfl wf_12_97 dX12_holds_150 ?_
          refine v_iload (i := 6) 2 rfl dX12_holds_153 ?_
          refine v_iaload kd_189 g49 (by decide) dX12_holds_155 ?_
          refine v_iconst ⟨by decide, by decide⟩ dX12_holds_156 ?_
          refine v_icmp_ne (tgt := 175) dX12_holds_157 (by decide) (fun c50 => ?_) (fun c50 => ?_)
          · replace h := b_wp_f c50 h
            refine v_iload (i := 7) 1 rfl dX12_holds_175 ?_
            refine v_iload (i := 8) 0 rfl dX12_holds_177 ?_
            refine v_icmp_ne (tgt := 186) dX12_holds_179 (by decide) (fun c51 => ?_) (fun c51 => ?_)
            · replace h := b_wp_f c51 h
              refine v_iconst ⟨by decide, by decide⟩ dX12_holds_186 ?_
              refine v_sub (ls2 := [(0, bR _), (1, bI _), (2, bI _), (3, bI _), (4, bI _)]) [4, 5, 6, 7, 8] rfl ?_
              exact t_X12_holds_b187 h
            · replace h := b_wp_t c51 h
              refine v_iconst ⟨by decide, by decide⟩ dX12_holds_182 ?_
              refine v_goto (tgt := 187) dX12_holds_183 (by decide) ?_
              refine v_sub (ls2 := [(0, bR _), (1, bI _), (2, bI _), (3, bI _), (4, bI _)]) [4, 5, 6, 7, 8] rfl ?_
              exact t_X12_holds_b187 h
          · replace h := b_wp_t c50 h
            refine v_iload (i := 7) 1 rfl dX12_holds_160 ?_
            refine v_iload (i := 8) 0 rfl dX12_holds_162 ?_
            refine v_icmp_ge (tgt := 171) dX12_holds_164 (by decide) (fun c57 => ?_) (fun c57 => ?_)
            · replace h := b_wp_t c57 h
              refine v_iconst ⟨by decide, by decide⟩ dX12_holds_171 ?_
              refine v_goto (tgt := 187) dX12_holds_172 (by decide) ?_
              refine v_sub (ls2 := [(0, bR _), (1, bI _), (2, bI _), (3, bI _), (4, bI _)]) [4, 5, 6, 7, 8] rfl ?_
              exact t_X12_holds_b187 h
            · replace h := b_wp_f c57 h
              refine v_iconst ⟨by decide, by decide⟩ dX12_holds_167 ?_
              refine v_goto (tgt := 187) dX12_holds_168 (by decide) ?_
              refine v_sub (ls2 := [(0, bR _), (1, bI _), (2, bI _), (3, bI _), (4, bI _)]) [4, 5, 6, 7, 8] rfl ?_
              exact t_X12_holds_b187 h
        · replace h := b_wp_t c48 h
          refine v_iload (i := 7) 1 rfl dX12_holds_134 ?_
          refine v_iload (i := 8) 0 rfl dX12_holds_136 ?_
          refine v_icmp_le (tgt := 145) dX12_holds_138 (by decide) (fun c58 => ?_) (fun c58 => ?_)
          · replace h := b_wp_t c58 h
            refine v_iconst ⟨by decide, by decide⟩ dX12_holds_145 ?_
            refine v_goto (tgt := 187) dX12_holds_146 (by decide) ?_
            refine v_sub (ls2 := [(0, bR _), (1, bI _), (2, bI _), (3, bI _), (4, bI _)]) [4, 5, 6, 7, 8] rfl ?_
            exact t_X12_holds_b187 h
          · replace h := b_wp_f c58 h
            refine v_iconst ⟨by decide, by decide⟩ dX12_holds_141 ?_
            refine v_goto (tgt := 187) dX12_holds_142 (by decide) ?_
            refine v_sub (ls2 := [(0, bR _), (1, bI _), (2, bI _), (3, bI _), (4, bI _)]) [4, 5, 6, 7, 8] rfl ?_
            exact t_X12_holds_b187 h
      · replace h := b_wp_t c46 h
        refine v_iload (i := 7) 1 rfl dX12_holds_110 ?_
        refine v_if_le (tgt := 119) dX12_holds_112 (by decide) (fun c59 => ?_) (fun c59 => ?_)
        · replace h := b_wp_t c59 h
          refine v_iconst ⟨by decide, by decide⟩ dX12_holds_119 ?_
          refine v_goto (tgt := 187) dX12_holds_120 (by decide) ?_
          refine v_sub (ls2 := [(0, bR _), (1, bI _), (2, bI _), (3, bI _), (4, bI _)]) [4, 5, 6, 7, 8] rfl ?_
          exact t_X12_holds_b187 h
        · replace h := b_wp_f c59 h
          refine v_iconst ⟨by decide, by decide⟩ dX12_holds_115 ?_
          refine v_goto (tgt := 187) dX12_holds_116 (by decide) ?_
          refine v_sub (ls2 := [(0, bR _), (1, bI _), (2, bI _), (3, bI _), (4, bI _)]) [4, 5, 6, 7, 8] rfl ?_
          exact t_X12_holds_b187 h
theorem l_X12_holds_16 {l : Launch} {E : bE} {Q : (Int × bM) → Prop} {v1 : Int} {v2 : Int} {s : Int × Int × bM} (h : b_wp (b_loop (fun t => F_X12_holds_s16 v1 v2 t.1 t.2.1 t.2.2) s) (X_X12_holds_16 l E Q v1 v2)) : A_X12_holds_16 l E Q v1 v2 s := b_loop_wp (fun t h => t_X12_holds_s16 h) s h
noncomputable def F_X12_holds_b304 (M : bM) : Option (Int × bM) :=
  b_g ((M 208 0) = 0 ∨ (M 208 0) = 1) (some ((M 208 0), M))
theorem t_X12_holds_b304 {l : Launch} {E : bE} {Q : (Int × bM) → Prop} {M : bM} (h : b_wp (F_X12_holds_b304 M) (Q)) : V l E xX12_holds (0, 0) 304 [(0, bR 11)] [] M (b_pI Q) := by
  unfold F_X12_holds_b304 at h
  obtain ⟨g60, h⟩ := b_wp_g h
  refine v_aload_n (f := 0) 0 rfl dX12_holds_304 ?_
  refine v_getR (kf := 69) (kz := 69) rfl kd_11 rfl ⟨by decide, by decide⟩ rfl wf_12_158 dX12_holds_305 ?_
  refine v_iconst ⟨by decide, by decide⟩ dX12_holds_308 ?_
  refine v_zaload kd_208 ⟨by decide, by decide⟩ (by decide) dX12_holds_309 ?_
  refine v_zreturn rfl g60 dX12_holds_310 ⟨by decide, by decide⟩ ?_
  exact ⟨_, rfl, h⟩
noncomputable def F_X12_holds (v1 : Int) (v2 : Int) (M : bM) : Option (Int × bM) :=
  b_g (0 ≤ v1 ∧ v1 < 216) (if (M 187 v1) = 0 then (some (1, M)) else (b_bind (b_loop (fun t => F_X12_holds_s16 v1 v2 t.1 t.2.1 t.2.2) (0, 0, M)) (fun t => F_X12_holds_b304 t)))
theorem t_X12_holds {l : Launch} {E : bE} {Q : (Int × bM) → Prop} {v1 : Int} {v2 : Int} {M : bM} (h : b_wp (F_X12_holds v1 v2 M) (Q)) : V l E xX12_holds (0, 0) 0 [(0, bR 11), (1, bI v1), (2, bI v2)] [] M (b_pI Q) := by
  unfold F_X12_holds at h
  obtain ⟨g1, h⟩ := b_wp_g h
  refine v_aload_n (f := 0) 0 rfl dX12_holds_0 ?_
  refine v_getR (kf := 41) (kz := 41) rfl kd_11 rfl ⟨by decide, by decide⟩ rfl wf_12_91 dX12_holds_1 ?_
  refine v_iload_n (f := 1) 1 rfl dX12_holds_4 ?_
  refine v_iaload kd_187 g1 (by decide) dX12_holds_5 ?_
  refine v_if_ne (tgt := 11) dX12_holds_6 (by decide) (fun c2 => ?_) (fun c2 => ?_)
  · replace h := b_wp_f c2 h
    refine v_iconst ⟨by decide, by decide⟩ dX12_holds_11 ?_
    refine v_istore_n (g := 3) (i := 3) (ls' := [(3, bI _), (0, bR _), (1, bI _), (2, bI _)]) rfl (by decide) dX12_holds_12 rfl ?_
    refine v_iconst ⟨by decide, by decide⟩ dX12_holds_13 ?_
    refine v_istore (i := 4) (ls' := [(4, bI _), (3, bI _), (0, bR _), (1, bI _), (2, bI _)]) (by decide) dX12_holds_14 rfl ?_
    refine v_sub (ls2 := [(0, bR _), (1, bI _), (2, bI _), (3, bI _), (4, bI _)]) [2, 3, 4, 1, 0] rfl ?_
    refine l_X12_holds_16 (b_wp_m (fun t h => ?_) (b_wp_b h))
    show V l E xX12_holds (0, 0) 304 [(0, bR 11)] [] t (b_pI Q)
    replace h : b_wp (F_X12_holds_b304 t) _ := h
    exact t_X12_holds_b304 h
  · replace h := b_wp_t c2 h
    refine v_iconst ⟨by decide, by decide⟩ dX12_holds_9 ?_
    refine v_zreturn rfl (Or.inr rfl) dX12_holds_10 ⟨by decide, by decide⟩ ?_
    exact ⟨_, rfl, h⟩
theorem c_X12_holds {l : Launch} {E : bE} {M : bM} {v1 : Int} {v2 : Int} {Q : (Int × bM) → Prop} (h : b_wp (F_X12_holds v1 v2 M) Q) : b_C l E xX12_holds yX12_holds [bR 11, bI v1, bI v2] M (b_pI Q) := b_met (by decide) ⟨rfl, rfl⟩ (Nat.le_of_ble_eq_true rfl) (fun _ _ => t_X12_holds h)
