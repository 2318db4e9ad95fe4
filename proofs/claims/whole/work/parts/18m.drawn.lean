abbrev xX12_takeLinks : bX := ("BurntHallModel", prog_14_method_99_code, 7, (Option.none : Option Jvm.ClassFile.FieldType), b_rm 2 0 0, 0, "takeLinks")
abbrev yX12_takeLinks : MethodName := ⟨"BurntHallModel", "takeLinks", "(II)V"⟩
theorem dX12_takeLinks_0 : decode prog_14_method_99_code 0 = .ok (.aload_n 0, 1) := by decide +kernel
theorem dX12_takeLinks_1 : decode prog_14_method_99_code 1 = .ok (.getfield 188, 3) := by decide +kernel
theorem dX12_takeLinks_4 : decode prog_14_method_99_code 4 = .ok (.iload_n 1, 1) := by decide +kernel
theorem dX12_takeLinks_5 : decode prog_14_method_99_code 5 = .ok (.iaload, 1) := by decide +kernel
theorem dX12_takeLinks_6 : decode prog_14_method_99_code 6 = .ok (.istore_n 3, 1) := by decide +kernel
theorem dX12_takeLinks_7 : decode prog_14_method_99_code 7 = .ok (.aload_n 0, 1) := by decide +kernel
theorem dX12_takeLinks_8 : decode prog_14_method_99_code 8 = .ok (.iconst 0, 1) := by decide +kernel
theorem dX12_takeLinks_9 : decode prog_14_method_99_code 9 = .ok (.putfield 571, 3) := by decide +kernel
theorem dX12_takeLinks_12 : decode prog_14_method_99_code 12 = .ok (.iload_n 2, 1) := by decide +kernel
theorem dX12_takeLinks_13 : decode prog_14_method_99_code 13 = .ok (.istore 4, 2) := by decide +kernel
theorem dX12_takeLinks_15 : decode prog_14_method_99_code 15 = .ok (.iload 4, 2) := by decide +kernel
theorem dX12_takeLinks_17 : decode prog_14_method_99_code 17 = .ok (.ifCond .lt 150, 3) := by decide +kernel
theorem dX12_takeLinks_20 : decode prog_14_method_99_code 20 = .ok (.iconst 0, 1) := by decide +kernel
theorem dX12_takeLinks_21 : decode prog_14_method_99_code 21 = .ok (.istore 5, 2) := by decide +kernel
theorem dX12_takeLinks_23 : decode prog_14_method_99_code 23 = .ok (.iload 4, 2) := by decide +kernel
theorem dX12_takeLinks_25 : decode prog_14_method_99_code 25 = .ok (.iload_n 2, 1) := by decide +kernel
theorem dX12_takeLinks_26 : decode prog_14_method_99_code 26 = .ok (.if_icmp .ne 18, 3) := by decide +kernel
theorem dX12_takeLinks_29 : decode prog_14_method_99_code 29 = .ok (.aload_n 0, 1) := by decide +kernel
theorem dX12_takeLinks_30 : decode prog_14_method_99_code 30 = .ok (.getfield 200, 3) := by decide +kernel
theorem dX12_takeLinks_33 : decode prog_14_method_99_code 33 = .ok (.bipush 30, 2) := by decide +kernel
theorem dX12_takeLinks_35 : decode prog_14_method_99_code 35 = .ok (.iload_n 1, 1) := by decide +kernel
theorem dX12_takeLinks_36 : decode prog_14_method_99_code 36 = .ok (.imul, 1) := by decide +kernel
theorem dX12_takeLinks_37 : decode prog_14_method_99_code 37 = .ok (.iload 5, 2) := by decide +kernel
theorem dX12_takeLinks_39 : decode prog_14_method_99_code 39 = .ok (.iadd, 1) := by decide +kernel
theorem dX12_takeLinks_40 : decode prog_14_method_99_code 40 = .ok (.baload, 1) := by decide +kernel
theorem dX12_takeLinks_41 : decode prog_14_method_99_code 41 = .ok (.goto 44, 3) := by decide +kernel
theorem dX12_takeLinks_44 : decode prog_14_method_99_code 44 = .ok (.aload_n 0, 1) := by decide +kernel
theorem dX12_takeLinks_45 : decode prog_14_method_99_code 45 = .ok (.getfield 197, 3) := by decide +kernel
theorem dX12_takeLinks_48 : decode prog_14_method_99_code 48 = .ok (.bipush 30, 2) := by decide +kernel
theorem dX12_takeLinks_50 : decode prog_14_method_99_code 50 = .ok (.aload_n 0, 1) := by decide +kernel
theorem dX12_takeLinks_51 : decode prog_14_method_99_code 51 = .ok (.getfield 191, 3) := by decide +kernel
theorem dX12_takeLinks_54 : decode prog_14_method_99_code 54 = .ok (.aload_n 0, 1) := by decide +kernel
theorem dX12_takeLinks_55 : decode prog_14_method_99_code 55 = .ok (.getfield 571, 3) := by decide +kernel
theorem dX12_takeLinks_58 : decode prog_14_method_99_code 58 = .ok (.iconst 1, 1) := by decide +kernel
theorem dX12_takeLinks_59 : decode prog_14_method_99_code 59 = .ok (.isub, 1) := by decide +kernel
theorem dX12_takeLinks_60 : decode prog_14_method_99_code 60 = .ok (.iaload, 1) := by decide +kernel
theorem dX12_takeLinks_61 : decode prog_14_method_99_code 61 = .ok (.imul, 1) := by decide +kernel
theorem dX12_takeLinks_62 : decode prog_14_method_99_code 62 = .ok (.iload 5, 2) := by decide +kernel
theorem dX12_takeLinks_64 : decode prog_14_method_99_code 64 = .ok (.iadd, 1) := by decide +kernel
theorem dX12_takeLinks_65 : decode prog_14_method_99_code 65 = .ok (.baload, 1) := by decide +kernel
theorem dX12_takeLinks_66 : decode prog_14_method_99_code 66 = .ok (.ifCond .eq 18, 3) := by decide +kernel
theorem dX12_takeLinks_69 : decode prog_14_method_99_code 69 = .ok (.aload_n 0, 1) := by decide +kernel
theorem dX12_takeLinks_70 : decode prog_14_method_99_code 70 = .ok (.getfield 170, 3) := by decide +kernel
theorem dX12_takeLinks_73 : decode prog_14_method_99_code 73 = .ok (.iload 5, 2) := by decide +kernel
theorem dX12_takeLinks_75 : decode prog_14_method_99_code 75 = .ok (.iaload, 1) := by decide +kernel
theorem dX12_takeLinks_76 : decode prog_14_method_99_code 76 = .ok (.iload_n 3, 1) := by decide +kernel
theorem dX12_takeLinks_77 : decode prog_14_method_99_code 77 = .ok (.if_icmp .lt 7, 3) := by decide +kernel
theorem dX12_takeLinks_80 : decode prog_14_method_99_code 80 = .ok (.iconst 1, 1) := by decide +kernel
theorem dX12_takeLinks_81 : decode prog_14_method_99_code 81 = .ok (.goto 4, 3) := by decide +kernel
theorem dX12_takeLinks_84 : decode prog_14_method_99_code 84 = .ok (.iconst 0, 1) := by decide +kernel
theorem dX12_takeLinks_85 : decode prog_14_method_99_code 85 = .ok (.istore 6, 2) := by decide +kernel
theorem dX12_takeLinks_87 : decode prog_14_method_99_code 87 = .ok (.iload 6, 2) := by decide +kernel
theorem dX12_takeLinks_89 : decode prog_14_method_99_code 89 = .ok (.ifCond .eq 33, 3) := by decide +kernel
theorem dX12_takeLinks_92 : decode prog_14_method_99_code 92 = .ok (.aload_n 0, 1) := by decide +kernel
theorem dX12_takeLinks_93 : decode prog_14_method_99_code 93 = .ok (.getfield 167, 3) := by decide +kernel
theorem dX12_takeLinks_96 : decode prog_14_method_99_code 96 = .ok (.iload 5, 2) := by decide +kernel
theorem dX12_takeLinks_98 : decode prog_14_method_99_code 98 = .ok (.iaload, 1) := by decide +kernel
theorem dX12_takeLinks_99 : decode prog_14_method_99_code 99 = .ok (.iload_n 3, 1) := by decide +kernel
theorem dX12_takeLinks_100 : decode prog_14_method_99_code 100 = .ok (.invokestatic 417, 3) := by decide +kernel
theorem dX12_takeLinks_103 : decode prog_14_method_99_code 103 = .ok (.aload_n 0, 1) := by decide +kernel
theorem dX12_takeLinks_104 : decode prog_14_method_99_code 104 = .ok (.getfield 194, 3) := by decide +kernel
theorem dX12_takeLinks_107 : decode prog_14_method_99_code 107 = .ok (.bipush 30, 2) := by decide +kernel
theorem dX12_takeLinks_109 : decode prog_14_method_99_code 109 = .ok (.iload 4, 2) := by decide +kernel
theorem dX12_takeLinks_111 : decode prog_14_method_99_code 111 = .ok (.imul, 1) := by decide +kernel
theorem dX12_takeLinks_112 : decode prog_14_method_99_code 112 = .ok (.iload 5, 2) := by decide +kernel
theorem dX12_takeLinks_114 : decode prog_14_method_99_code 114 = .ok (.iadd, 1) := by decide +kernel
theorem dX12_takeLinks_115 : decode prog_14_method_99_code 115 = .ok (.iaload, 1) := by decide +kernel
theorem dX12_takeLinks_116 : decode prog_14_method_99_code 116 = .ok (.if_icmp .gt 6, 3) := by decide +kernel
theorem dX12_takeLinks_119 : decode prog_14_method_99_code 119 = .ok (.goto 9, 3) := by decide +kernel
theorem dX12_takeLinks_122 : decode prog_14_method_99_code 122 = .ok (.iinc 5 1, 3) := by decide +kernel
theorem dX12_takeLinks_125 : decode prog_14_method_99_code 125 = .ok (.goto (-102), 3) := by decide +kernel
theorem dX12_takeLinks_128 : decode prog_14_method_99_code 128 = .ok (.aload_n 0, 1) := by decide +kernel
theorem dX12_takeLinks_129 : decode prog_14_method_99_code 129 = .ok (.getfield 191, 3) := by decide +kernel
theorem dX12_takeLinks_132 : decode prog_14_method_99_code 132 = .ok (.aload_n 0, 1) := by decide +kernel
theorem dX12_takeLinks_133 : decode prog_14_method_99_code 133 = .ok (.getfield 571, 3) := by decide +kernel
theorem dX12_takeLinks_136 : decode prog_14_method_99_code 136 = .ok (.iload 5, 2) := by decide +kernel
theorem dX12_takeLinks_138 : decode prog_14_method_99_code 138 = .ok (.iastore, 1) := by decide +kernel
theorem dX12_takeLinks_139 : decode prog_14_method_99_code 139 = .ok (.aload_n 0, 1) := by decide +kernel
theorem dX12_takeLinks_140 : decode prog_14_method_99_code 140 = .ok (.dup, 1) := by decide +kernel
theorem dX12_takeLinks_141 : decode prog_14_method_99_code 141 = .ok (.getfield 571, 3) := by decide +kernel
theorem dX12_takeLinks_144 : decode prog_14_method_99_code 144 = .ok (.iconst 1, 1) := by decide +kernel
theorem dX12_takeLinks_145 : decode prog_14_method_99_code 145 = .ok (.iadd, 1) := by decide +kernel
theorem dX12_takeLinks_146 : decode prog_14_method_99_code 146 = .ok (.putfield 571, 3) := by decide +kernel
theorem dX12_takeLinks_149 : decode prog_14_method_99_code 149 = .ok (.aload_n 0, 1) := by decide +kernel
theorem dX12_takeLinks_150 : decode prog_14_method_99_code 150 = .ok (.getfield 167, 3) := by decide +kernel
theorem dX12_takeLinks_153 : decode prog_14_method_99_code 153 = .ok (.iload 5, 2) := by decide +kernel
theorem dX12_takeLinks_155 : decode prog_14_method_99_code 155 = .ok (.iaload, 1) := by decide +kernel
theorem dX12_takeLinks_156 : decode prog_14_method_99_code 156 = .ok (.iload_n 3, 1) := by decide +kernel
theorem dX12_takeLinks_157 : decode prog_14_method_99_code 157 = .ok (.invokestatic 417, 3) := by decide +kernel
theorem dX12_takeLinks_160 : decode prog_14_method_99_code 160 = .ok (.istore_n 3, 1) := by decide +kernel
theorem dX12_takeLinks_161 : decode prog_14_method_99_code 161 = .ok (.iinc 4 (-1), 3) := by decide +kernel
theorem dX12_takeLinks_164 : decode prog_14_method_99_code 164 = .ok (.goto (-149), 3) := by decide +kernel
theorem dX12_takeLinks_167 : decode prog_14_method_99_code 167 = .ok (.return_, 1) := by decide +kernel
abbrev A_X12_takeLinks_15 (l : Launch) (E : bE) (Q : bM → Prop) (v1 : Int) (v2 : Int) : (Int × Int × bM) → Prop := (fun t : Int × Int × bM => V l E xX12_takeLinks (0, 0) 15 [(0, bR 11), (1, bI v1), (2, bI v2), (3, bI (t.1)), (4, bI (t.2.1))] [] t.2.2 (b_pV Q))
abbrev X_X12_takeLinks_15 (l : Launch) (E : bE) (Q : bM → Prop) (v1 : Int) (v2 : Int) : (bM) → Prop := (fun t : bM => V l E xX12_takeLinks (0, 0) 167 [] [] t (b_pV Q))
abbrev A_X12_takeLinks_23 (l : Launch) (E : bE) (Q : bM → Prop) (v1 : Int) (v2 : Int) (v3 : Int) (v4 : Int) (M : bM) : (Int) → Prop := (fun t : Int => V l E xX12_takeLinks (0, 0) 23 [(0, bR 11), (1, bI v1), (2, bI v2), (3, bI v3), (4, bI v4), (5, bI t)] [] M (b_pV Q))
abbrev X_X12_takeLinks_23 (l : Launch) (E : bE) (Q : bM → Prop) (v1 : Int) (v2 : Int) (v3 : Int) (v4 : Int) (M : bM) : (Int) → Prop := (fun t : Int => V l E xX12_takeLinks (0, 0) 128 [(0, bR 11), (1, bI v1), (2, bI v2), (3, bI v3), (4, bI v4), (5, bI t)] [] M (b_pV Q))
noncomputable def F_X12_takeLinks_b85 (v1 : Int) (v2 : Int) (v3 : Int) (v4 : Int) (v5 : Int) (u0 : Int) (M : bM) : Option ((Int) ⊕ (Int)) :=
  if u0 = 0 then (b_g (b_i32 (v5 + 1)) (some (.inl ((v5 + 1))))) else (b_g (0 ≤ v5 ∧ v5 < 30) (b_bind (F_X12_greater (M 211 v5) v3 M) (fun x15 => b_g ((b_i32 (30 * v4)) ∧ (b_i32 ((30 * v4) + v5)) ∧ (0 ≤ ((30 * v4) + v5) ∧ ((30 * v4) + v5) < 240)) (if (M 220 ((30 * v4) + v5)) < x15 then (b_g (b_i32 (v5 + 1)) (some (.inl ((v5 + 1))))) else (some (.inr (v5)))))))
theorem t_X12_takeLinks_b85 {l : Launch} {E : bE} {Q : bM → Prop} {v1 : Int} {v2 : Int} {v3 : Int} {v4 : Int} {v5 : Int} {u0 : Int} {M : bM} (h : b_wp (F_X12_takeLinks_b85 v1 v2 v3 v4 v5 u0 M) (Sum.elim (A_X12_takeLinks_23 l E Q v1 v2 v3 v4 M) (X_X12_takeLinks_23 l E Q v1 v2 v3 v4 M))) : V l E xX12_takeLinks (0, 0) 85 [(0, bR 11), (1, bI v1), (2, bI v2), (3, bI v3), (4, bI v4), (5, bI v5)] [bI u0] M (b_pV Q) := by
  unfold F_X12_takeLinks_b85 at h
  refine v_istore (i := 6) (ls' := [(6, bI _), (0, bR _), (1, bI _), (2, bI _), (3, bI _), (4, bI _), (5, bI _)]) (by decide) dX12_takeLinks_85 rfl ?_
  refine v_iload (i := 6) 0 rfl dX12_takeLinks_87 ?_
  refine v_if_eq (tgt := 122) dX12_takeLinks_89 (by decide) (fun c12 => ?_) (fun c12 => ?_)
  · replace h := b_wp_t c12 h
    obtain ⟨g13, h⟩ := b_wp_g h
    refine v_iincN (ls' := [(5, bI _), (6, bI _), (0, bR _), (1, bI _), (2, bI _), (3, bI _), (4, bI _)]) 6 rfl (by decide) g13 dX12_takeLinks_122 rfl ?_
    refine v_goto (tgt := 23) dX12_takeLinks_125 (by decide) ?_
    refine v_sub (ls2 := [(0, bR _), (1, bI _), (2, bI _), (3, bI _), (4, bI _), (5, bI _)]) [2, 3, 4, 5, 6, 0] rfl ?_
    exact h
  · replace h := b_wp_f c12 h
    obtain ⟨g14, h⟩ := b_wp_g h
    refine v_aload_n (f := 0) 1 rfl dX12_takeLinks_92 ?_
    refine v_getR (kf := 72) (kz := 72) rfl kd_11 rfl ⟨by decide, by decide⟩ rfl wf_12_167 dX12_takeLinks_93 ?_
    refine v_iload (i := 5) 6 rfl dX12_takeLinks_96 ?_
    refine v_iaload kd_211 g14 (by decide) dX12_takeLinks_98 ?_
    refine v_iload_n (f := 3) 4 rfl dX12_takeLinks_99 ?_
    refine v_cSIp (nA := 2) (As := [bI _, bI _]) (ix := 417) (cf_X12_greater (b_wp_b h)) rfl wc_X12_greater wm_12_417 wi_X12_greater wn_12 ⟨by decide, by decide, by decide⟩ rfl ⟨by decide, by decide⟩ ⟨by decide, by decide⟩ (Nat.le_of_ble_eq_true rfl) dX12_takeLinks_100 (fun x15 h => ?_)
    obtain ⟨⟨g16, g17, g18⟩, h⟩ := b_wp_g h
    refine v_aload_n (f := 0) 1 rfl dX12_takeLinks_103 ?_
    refine v_getR (kf := 89) (kz := 89) rfl kd_11 rfl ⟨by decide, by decide⟩ rfl wf_12_194 dX12_takeLinks_104 ?_
    refine v_bipush ⟨by decide, by decide⟩ (by decide) dX12_takeLinks_107 ?_
    refine v_iload (i := 4) 5 rfl dX12_takeLinks_109 ?_
    refine v_imulN g16 dX12_takeLinks_111 ?_
    refine v_iload (i := 5) 6 rfl dX12_takeLinks_112 ?_
    refine v_iaddN g17 dX12_takeLinks_114 ?_
    refine v_iaload kd_220 g18 (by decide) dX12_takeLinks_115 ?_
    refine v_icmp_gt (tgt := 122) dX12_takeLinks_116 (by decide) (fun c19 => ?_) (fun c19 => ?_)
    · replace h := b_wp_t c19 h
      obtain ⟨g20, h⟩ := b_wp_g h
      refine v_iincN (ls' := [(5, bI _), (6, bI _), (0, bR _), (1, bI _), (2, bI _), (3, bI _), (4, bI _)]) 6 rfl (by decide) g20 dX12_takeLinks_122 rfl ?_
      refine v_goto (tgt := 23) dX12_takeLinks_125 (by decide) ?_
      refine v_sub (ls2 := [(0, bR _), (1, bI _), (2, bI _), (3, bI _), (4, bI _), (5, bI _)]) [2, 3, 4, 5, 6, 0] rfl ?_
      exact h
    · replace h := b_wp_f c19 h
      refine v_goto (tgt := 128) dX12_takeLinks_119 (by decide) ?_
      refine v_sub (ls2 := [(0, bR _), (1, bI _), (2, bI _), (3, bI _), (4, bI _), (5, bI _)]) [1, 2, 3, 4, 5, 6] rfl ?_
      exact h
noncomputable def F_X12_takeLinks_b84 (v1 : Int) (v2 : Int) (v3 : Int) (v4 : Int) (v5 : Int) (M : bM) : Option ((Int) ⊕ (Int)) :=
  F_X12_takeLinks_b85 v1 v2 v3 v4 v5 0 M
theorem t_X12_takeLinks_b84 {l : Launch} {E : bE} {Q : bM → Prop} {v1 : Int} {v2 : Int} {v3 : Int} {v4 : Int} {v5 : Int} {M : bM} (h : b_wp (F_X12_takeLinks_b84 v1 v2 v3 v4 v5 M) (Sum.elim (A_X12_takeLinks_23 l E Q v1 v2 v3 v4 M) (X_X12_takeLinks_23 l E Q v1 v2 v3 v4 M))) : V l E xX12_takeLinks (0, 0) 84 [(0, bR 11), (1, bI v1), (2, bI v2), (3, bI v3), (4, bI v4), (5, bI v5)] [] M (b_pV Q) := by
  unfold F_X12_takeLinks_b84 at h
  refine v_iconst ⟨by decide, by decide⟩ dX12_takeLinks_84 ?_
  exact t_X12_takeLinks_b85 h
noncomputable def F_X12_takeLinks_s23 (v1 : Int) (v2 : Int) (v3 : Int) (v4 : Int) (v5 : Int) (M : bM) : Option ((Int) ⊕ (Int)) :=
  if v4 = v2 then (b_g ((b_i32 (30 * v1)) ∧ (b_i32 ((30 * v1) + v5)) ∧ (0 ≤ ((30 * v1) + v5) ∧ ((30 * v1) + v5) < 1800)) (F_X12_takeLinks_b85 v1 v2 v3 v4 v5 (M 222 ((30 * v1) + v5)) M)) else (b_g ((b_i32 ((M 11 86) - 1)) ∧ (0 ≤ ((M 11 86) - 1) ∧ ((M 11 86) - 1) < 8) ∧ (b_i32 (30 * (M 219 ((M 11 86) - 1)))) ∧ (b_i32 ((30 * (M 219 ((M 11 86) - 1))) + v5)) ∧ (0 ≤ ((30 * (M 219 ((M 11 86) - 1))) + v5) ∧ ((30 * (M 219 ((M 11 86) - 1))) + v5) < 900)) (if (M 221 ((30 * (M 219 ((M 11 86) - 1))) + v5)) = 0 then (F_X12_takeLinks_b84 v1 v2 v3 v4 v5 M) else (b_g (0 ≤ v5 ∧ v5 < 30) (if (M 212 v5) < v3 then (F_X12_takeLinks_b84 v1 v2 v3 v4 v5 M) else (F_X12_takeLinks_b85 v1 v2 v3 v4 v5 1 M)))))
theorem t_X12_takeLinks_s23 {l : Launch} {E : bE} {Q : bM → Prop} {v1 : Int} {v2 : Int} {v3 : Int} {v4 : Int} {v5 : Int} {M : bM} (h : b_wp (F_X12_takeLinks_s23 v1 v2 v3 v4 v5 M) (Sum.elim (A_X12_takeLinks_23 l E Q v1 v2 v3 v4 M) (X_X12_takeLinks_23 l E Q v1 v2 v3 v4 M))) : V l E xX12_takeLinks (0, 0) 23 [(0, bR 11), (1, bI v1), (2, bI v2), (3, bI v3), (4, bI v4), (5, bI v5)] [] M (b_pV Q) := by
  unfold F_X12_takeLinks_s23 at h
  refine v_iload (i := 4) 4 rfl dX12_takeLinks_23 ?_
  refine v_iload_n (f := 2) 2 rfl dX12_takeLinks_25 ?_
  refine v_icmp_ne (tgt := 44) dX12_takeLinks_26 (by decide) (fun c5 => ?_) (fun c5 => ?_)
  · replace h := b_wp_f c5 h
    obtain ⟨⟨g6, g7, g8, g9, g10⟩, h⟩ := b_wp_g h
    refine v_aload_n (f := 0) 0 rfl dX12_takeLinks_44 ?_
    refine v_getR (kf := 90) (kz := 90) rfl kd_11 rfl ⟨by decide, by decide⟩ rfl wf_12_197 dX12_takeLinks_45 ?_
    refine v_bipush ⟨by decide, by decide⟩ (by decide) dX12_takeLinks_48 ?_
    refine v_aload_n (f := 0) 0 rfl dX12_takeLinks_50 ?_
    refine v_getR (kf := 88) (kz := 88) rfl kd_11 rfl ⟨by decide, by decide⟩ rfl wf_12_191 dX12_takeLinks_51 ?_
    refine v_aload_n (f := 0) 0 rfl dX12_takeLinks_54 ?_
    refine v_getI (kf := 86) (kz := 86) rfl kd_11 rfl ⟨by decide, by decide⟩ rfl wf_12_571 dX12_takeLinks_55 ?_
    refine v_iconst ⟨by decide, by decide⟩ dX12_takeLinks_58 ?_
    refine v_isubN g6 dX12_takeLinks_59 ?_
    refine v_iaload kd_219 g7 (by decide) dX12_takeLinks_60 ?_
    refine v_imulN g8 dX12_takeLinks_61 ?_
    refine v_iload (i := 5) 5 rfl dX12_takeLinks_62 ?_
    refine v_iaddN g9 dX12_takeLinks_64 ?_
    refine v_zaload kd_221 g10 (by decide) dX12_takeLinks_65 ?_
    refine v_if_eq (tgt := 84) dX12_takeLinks_66 (by decide) (fun c11 => ?_) (fun c11 => ?_)
    · replace h := b_wp_t c11 h
      exact t_X12_takeLinks_b84 h
    · replace h := b_wp_f c11 h
      obtain ⟨g21, h⟩ := b_wp_g h
      refine v_aload_n (f := 0) 0 rfl dX12_takeLinks_69 ?_
      refine v_getR (kf := 73) (kz := 73) rfl kd_11 rfl ⟨by decide, by decide⟩ rfl wf_12_170 dX12_takeLinks_70 ?_
      refine v_iload (i := 5) 5 rfl dX12_takeLinks_73 ?_
      refine v_iaload kd_212 g21 (by decide) dX12_takeLinks_75 ?_
      refine v_iload_n (f := 3) 3 rfl dX12_takeLinks_76 ?_
      refine v_icmp_lt (tgt := 84) dX12_takeLinks_77 (by decide) (fun c22 => ?_) (fun c22 => ?_)
      · replace h := b_wp_t c22 h
        exact t_X12_takeLinks_b84 h
      · replace h := b_wp_f c22 h
        refine v_iconst ⟨by decide, by decide⟩ dX12_takeLinks_80 ?_
        refine v_goto (tgt := 85) dX12_takeLinks_81 (by decide) ?_
        exact t_X12_takeLinks_b85 h
  · replace h := b_wp_t c5 h
    obtain ⟨⟨g23, g24, g25⟩, h⟩ := b_wp_g h
    refine v_aload_n (f := 0) 0 rfl dX12_takeLinks_29 ?_
    refine v_getR (kf := 91) (kz := 91) rfl kd_11 rfl ⟨by decide, by decide⟩ rfl wf_12_200 dX12_takeLinks_30 ?_
    refine v_bipush ⟨by decide, by decide⟩ (by decide) dX12_takeLinks_33 ?_
    refine v_iload_n (f := 1) 1 rfl dX12_takeLinks_35 ?_
    refine v_imulN g23 dX12_takeLinks_36 ?_
    refine v_iload (i := 5) 5 rfl dX12_takeLinks_37 ?_
    refine v_iaddN g24 dX12_takeLinks_39 ?_
    refine v_zaload kd_222 g25 (by decide) dX12_takeLinks_40 ?_
    refine v_goto (tgt := 85) dX12_takeLinks_41 (by decide) ?_
    exact t_X12_takeLinks_b85 h
theorem l_X12_takeLinks_23 {l : Launch} {E : bE} {Q : bM → Prop} {v1 : Int} {v2 : Int} {v3 : Int} {v4 : Int} {M : bM} {s : Int} (h : b_wp (b_loop (fun t => F_X12_takeLinks_s23 v1 v2 v3 v4 t M) s) (X_X12_takeLinks_23 l E Q v1 v2 v3 v4 M)) : A_X12_takeLinks_23 l E Q v1 v2 v3 v4 M s := b_loop_wp (fun t h => t_X12_takeLinks_s23 h) s h
noncomputable def F_X12_takeLinks_b128 (v1 : Int) (v2 : Int) (v3 : Int) (v4 : Int) (v5 : Int) (M : bM) : Option ((Int × Int × bM) ⊕ (bM)) :=
  b_g (0 ≤ (M 11 86) ∧ (M 11 86) < 8) (b_let (b_up M 219 (M 11 86) v5) (fun M27 => b_g (b_i32 ((M27 11 86) + 1)) (b_let (b_up M27 11 86 ((M27 11 86) + 1)) (fun M29 => b_g (0 ≤ v5 ∧ v5 < 30) (b_bind (F_X12_greater (M29 211 v5) v3 M29) (fun x31 => b_g (b_i32 (v4 + (-1))) (some (.inl (x31, (v4 + (-1)), M29)))))))))
theorem t_X12_takeLinks_b128 {l : Launch} {E : bE} {Q : bM → Prop} {v1 : Int} {v2 : Int} {v3 : Int} {v4 : Int} {v5 : Int} {M : bM} (h : b_wp (F_X12_takeLinks_b128 v1 v2 v3 v4 v5 M) (Sum.elim (A_X12_takeLinks_15 l E Q v1 v2) (X_X12_takeLinks_15 l E Q v1 v2))) : V l E xX12_takeLinks (0, 0) 128 [(0, bR 11), (1, bI v1), (2, bI v2), (3, bI v3), (4, bI v4), (5, bI v5)] [] M (b_pV Q) := by
  unfold F_X12_takeLinks_b128 at h
  obtain ⟨g26, h⟩ := b_wp_g h
  refine v_aload_n (f := 0) 0 rfl dX12_takeLinks_128 ?_
  refine v_getR (kf := 88) (kz := 88) rfl kd_11 rfl ⟨by decide, by decide⟩ rfl wf_12_191 dX12_takeLinks_129 ?_
  refine v_aload_n (f := 0) 0 rfl dX12_takeLinks_132 ?_
  refine v_getI (kf := 86) (kz := 86) rfl kd_11 rfl ⟨by decide, by decide⟩ rfl wf_12_571 dX12_takeLinks_133 ?_
  refine v_iload (i := 5) 5 rfl dX12_takeLinks_136 ?_
  refine v_iastore kd_219 g26 (by decide) dX12_takeLinks_138 ?_
  replace h := b_wp_l h
  obtain ⟨g28, h⟩ := b_wp_g h
  refine v_aload_n (f := 0) 0 rfl dX12_takeLinks_139 ?_
  refine v_dup rfl dX12_takeLinks_140 ?_
  refine v_getI (kf := 86) (kz := 86) rfl kd_11 rfl ⟨by decide, by decide⟩ rfl wf_12_571 dX12_takeLinks_141 ?_
  refine v_iconst ⟨by decide, by decide⟩ dX12_takeLinks_144 ?_
  refine v_iaddN g28 dX12_takeLinks_145 ?_
  refine v_putI (kf := 86) (kz := 86) rfl kd_11 rfl ⟨by decide, by decide⟩ rfl wf_12_571 rfl rfl dX12_takeLinks_146 ?_
  replace h := b_wp_l h
  obtain ⟨g30, h⟩ := b_wp_g h
  refine v_aload_n (f := 0) 0 rfl dX12_takeLinks_149 ?_
  refine v_getR (kf := 72) (kz := 72) rfl kd_11 rfl ⟨by decide, by decide⟩ rfl wf_12_167 dX12_takeLinks_150 ?_
  refine v_iload (i := 5) 5 rfl dX12_takeLinks_153 ?_
  refine v_iaload kd_211 g30 (by decide) dX12_takeLinks_155 ?_
  refine v_iload_n (f := 3) 3 rfl dX12_takeLinks_156 ?_
  refine v_cSIp (nA := 2) (As := [bI _, bI _]) (ix := 417) (cf_X12_greater (b_wp_b h)) rfl wc_X12_greater wm_12_417 wi_X12_greater wn_12 ⟨by decide, by decide, by decide⟩ rfl ⟨by decide, by decide⟩ ⟨by decide, by decide⟩ (Nat.le_of_ble_eq_true rfl) dX12_takeLinks_157 (fun x31 h => ?_)
  obtain ⟨g32, h⟩ := b_wp_g h
  refine v_istore_n (g := 3) (i := 3) (ls' := [(3, bI _), (0, bR _), (1, bI _), (2, bI _), (4, bI _), (5, bI _)]) rfl (by decide) dX12_takeLinks_160 rfl ?_
  refine v_iincN (ls' := [(4, bI _), (3, bI _), (0, bR _), (1, bI _), (2, bI _), (5, bI _)]) 4 rfl (by decide) g32 dX12_takeLinks_161 rfl ?_
  refine v_goto (tgt := 15) dX12_takeLinks_164 (by decide) ?_
  refine v_sub (ls2 := [(0, bR _), (1, bI _), (2, bI _), (3, bI _), (4, bI _)]) [2, 3, 4, 1, 0] rfl ?_
  exact h
noncomputable def F_X12_takeLinks_s15 (v1 : Int) (v2 : Int) (v3 : Int) (v4 : Int) (M : bM) : Option ((Int × Int × bM) ⊕ (bM)) :=
  if v4 < 0 then (some (.inr (M))) else (b_bind (b_loop (fun t => F_X12_takeLinks_s23 v1 v2 v3 v4 t M) (0)) (fun t => F_X12_takeLinks_b128 v1 v2 v3 v4 t M))
theorem t_X12_takeLinks_s15 {l : Launch} {E : bE} {Q : bM → Prop} {v1 : Int} {v2 : Int} {v3 : Int} {v4 : Int} {M : bM} (h : b_wp (F_X12_takeLinks_s15 v1 v2 v3 v4 M) (Sum.elim (A_X12_takeLinks_15 l E Q v1 v2) (X_X12_takeLinks_15 l E Q v1 v2))) : V l E xX12_takeLinks (0, 0) 15 [(0, bR 11), (1, bI v1), (2, bI v2), (3, bI v3), (4, bI v4)] [] M (b_pV Q) := by
  unfold F_X12_takeLinks_s15 at h
  refine v_iload (i := 4) 4 rfl dX12_takeLinks_15 ?_
  refine v_if_lt (tgt := 167) dX12_takeLinks_17 (by decide) (fun c4 => ?_) (fun c4 => ?_)
  · replace h := b_wp_t c4 h
    refine v_sub (ls2 := []) [] rfl ?_
    exact h
  · replace h := b_wp_f c4 h
    refine v_iconst ⟨by decide, by decide⟩ dX12_takeLinks_20 ?_
    refine v_istore (i := 5) (ls' := [(5, bI _), (0, bR _), (1, bI _), (2, bI _), (3, bI _), (4, bI _)]) (by decide) dX12_takeLinks_21 rfl ?_
    refine v_sub (ls2 := [(0, bR _), (1, bI _), (2, bI _), (3, bI _), (4, bI _), (5, bI _)]) [1, 2, 3, 4, 5, 0] rfl ?_
    refine l_X12_takeLinks_23 (b_wp_m (fun t h => ?_) (b_wp_b h))
    show V l E xX12_takeLinks (0, 0) 128 [(0, bR 11), (1, bI _), (2, bI _), (3, bI _), (4, bI _), (5, bI _)] [] _ (b_pV Q)
    exact t_X12_takeLinks_b128 h
theorem l_X12_takeLinks_15 {l : Launch} {E : bE} {Q : bM → Prop} {v1 : Int} {v2 : Int} {s : Int × Int × bM} (h : b_wp (b_loop (fun t => F_X12_takeLinks_s15 v1 v2 t.1 t.2.1 t.2.2) s) (X_X12_takeLinks_15 l E Q v1 v2)) : A_X12_takeLinks_15 l E Q v1 v2 s := b_loop_wp (fun t h => t_X12_takeLinks_s15 h) s h
noncomputable def F_X12_takeLinks_b167 (M : bM) : Option (bM) :=
  some M
theorem t_X12_takeLinks_b167 {l : Launch} {E : bE} {Q : bM → Prop} {M : bM} (h : b_wp (F_X12_takeLinks_b167 M) (Q)) : V l E xX12_takeLinks (0, 0) 167 [] [] M (b_pV Q) := by
  unfold F_X12_takeLinks_b167 at h
  refine v_return rfl dX12_takeLinks_167 ⟨by decide, by decide⟩ ?_
  exact ⟨rfl, h⟩
noncomputable def F_X12_takeLinks (v1 : Int) (v2 : Int) (M : bM) : Option (bM) :=
  b_g (0 ≤ v1 ∧ v1 < 60) (b_let ((M 218 v1)) (fun y2 => b_let (b_up M 11 86 0) (fun M3 => b_bind (b_loop (fun t => F_X12_takeLinks_s15 v1 v2 t.1 t.2.1 t.2.2) (y2, v2, M3)) (fun t => F_X12_takeLinks_b167 t))))
theorem t_X12_takeLinks {l : Launch} {E : bE} {Q : bM → Prop} {v1 : Int} {v2 : Int} {M : bM} (h : b_wp (F_X12_takeLinks v1 v2 M) (Q)) : V l E xX12_takeLinks (0, 0) 0 [(0, bR 11), (1, bI v1), (2, bI v2)] [] M (b_pV Q) := by
  unfold F_X12_takeLinks at h
  obtain ⟨g1, h⟩ := b_wp_g h
  refine v_aload_n (f := 0) 0 rfl dX12_takeLinks_0 ?_
  refine v_getR (kf := 79) (kz := 79) rfl kd_11 rfl ⟨by decide, by decide⟩ rfl wf_12_188 dX12_takeLinks_1 ?_
  refine v_iload_n (f := 1) 1 rfl dX12_takeLinks_4 ?_
  refine v_iaload kd_218 g1 (by decide) dX12_takeLinks_5 ?_
  replace h := b_wp_l h
  refine v_istore_n (g := 3) (i := 3) (ls' := [(3, bI _), (0, bR _), (1, bI _), (2, bI _)]) rfl (by decide) dX12_takeLinks_6 rfl ?_
  refine v_aload_n (f := 0) 1 rfl dX12_takeLinks_7 ?_
  refine v_iconst ⟨by decide, by decide⟩ dX12_takeLinks_8 ?_
  refine v_putI (kf := 86) (kz := 86) rfl kd_11 rfl ⟨by decide, by decide⟩ rfl wf_12_571 rfl rfl dX12_takeLinks_9 ?_
  replace h := b_wp_l h
  refine v_iload_n (f := 2) 3 rfl dX12_takeLinks_12 ?_
  refine v_istore (i := 4) (ls' := [(4, bI _), (3, bI _), (0, bR _), (1, bI _), (2, bI _)]) (by decide) dX12_takeLinks_13 rfl ?_
  refine v_sub (ls2 := [(0, bR _), (1, bI _), (2, bI _), (3, bI _), (4, bI _)]) [2, 3, 4, 1, 0] rfl ?_
  refine l_X12_takeLinks_15 (b_wp_m (fun t h => ?_) (b_wp_b h))
  show V l E xX12_takeLinks (0, 0) 167 [] [] _ (b_pV Q)
  exact t_X12_takeLinks_b167 h
theorem cf_X12_takeLinks {l : Launch} {E : bE} {M : bM} {v1 : Int} {v2 : Int} {Q : bM → Prop} (h : b_wp (F_X12_takeLinks v1 v2 M) Q) : b_C l E xX12_takeLinks yX12_takeLinks [bR 11, bI v1, bI v2] M (b_pV Q) := b_met (by decide) ⟨rfl, rfl⟩ (Nat.le_of_ble_eq_true rfl) (fun _ _ => t_X12_takeLinks h)
abbrev xX12_weakestOf : bX := ("BurntHallModel", prog_14_method_100_code, 3, (Option.some Jvm.ClassFile.FieldType.int), b_rm 3 0 0, 0, "weakestOf")
abbrev yX12_weakestOf : MethodName := ⟨"BurntHallModel", "weakestOf", "()I"⟩
theorem dX12_weakestOf_0 : decode prog_14_method_100_code 0 = .ok (.aload_n 0, 1) := by decide +kernel
theorem dX12_weakestOf_1 : decode prog_14_method_100_code 1 = .ok (.getfield 571, 3) := by decide +kernel
theorem dX12_weakestOf_4 : decode prog_14_method_100_code 4 = .ok (.ifCond .ne 9, 3) := by decide +kernel
theorem dX12_weakestOf_7 : decode prog_14_method_100_code 7 = .ok (.sipush 999, 3) := by decide +kernel
theorem dX12_weakestOf_10 : decode prog_14_method_100_code 10 = .ok (.goto 13, 3) := by decide +kernel
theorem dX12_weakestOf_13 : decode prog_14_method_100_code 13 = .ok (.aload_n 0, 1) := by decide +kernel
theorem dX12_weakestOf_14 : decode prog_14_method_100_code 14 = .ok (.aload_n 0, 1) := by decide +kernel
theorem dX12_weakestOf_15 : decode prog_14_method_100_code 15 = .ok (.getfield 191, 3) := by decide +kernel
theorem dX12_weakestOf_18 : decode prog_14_method_100_code 18 = .ok (.iconst 0, 1) := by decide +kernel
theorem dX12_weakestOf_19 : decode prog_14_method_100_code 19 = .ok (.iaload, 1) := by decide +kernel
theorem dX12_weakestOf_20 : decode prog_14_method_100_code 20 = .ok (.invokevirtual 537, 3) := by decide +kernel
theorem dX12_weakestOf_23 : decode prog_14_method_100_code 23 = .ok (.istore_n 1, 1) := by decide +kernel
theorem dX12_weakestOf_24 : decode prog_14_method_100_code 24 = .ok (.iconst 1, 1) := by decide +kernel
theorem dX12_weakestOf_25 : decode prog_14_method_100_code 25 = .ok (.istore_n 2, 1) := by decide +kernel
theorem dX12_weakestOf_26 : decode prog_14_method_100_code 26 = .ok (.iload_n 2, 1) := by decide +kernel
theorem dX12_weakestOf_27 : decode prog_14_method_100_code 27 = .ok (.aload_n 0, 1) := by decide +kernel
theorem dX12_weakestOf_28 : decode prog_14_method_100_code 28 = .ok (.getfield 571, 3) := by decide +kernel
theorem dX12_weakestOf_31 : decode prog_14_method_100_code 31 = .ok (.if_icmp .ge 24, 3) := by decide +kernel
theorem dX12_weakestOf_34 : decode prog_14_method_100_code 34 = .ok (.iload_n 1, 1) := by decide +kernel
theorem dX12_weakestOf_35 : decode prog_14_method_100_code 35 = .ok (.aload_n 0, 1) := by decide +kernel
theorem dX12_weakestOf_36 : decode prog_14_method_100_code 36 = .ok (.aload_n 0, 1) := by decide +kernel
theorem dX12_weakestOf_37 : decode prog_14_method_100_code 37 = .ok (.getfield 191, 3) := by decide +kernel
theorem dX12_weakestOf_40 : decode prog_14_method_100_code 40 = .ok (.iload_n 2, 1) := by decide +kernel
theorem dX12_weakestOf_41 : decode prog_14_method_100_code 41 = .ok (.iaload, 1) := by decide +kernel
theorem dX12_weakestOf_42 : decode prog_14_method_100_code 42 = .ok (.invokevirtual 537, 3) := by decide +kernel
theorem dX12_weakestOf_45 : decode prog_14_method_100_code 45 = .ok (.invokestatic 414, 3) := by decide +kernel
theorem dX12_weakestOf_48 : decode prog_14_method_100_code 48 = .ok (.istore_n 1, 1) := by decide +kernel
theorem dX12_weakestOf_49 : decode prog_14_method_100_code 49 = .ok (.iinc 2 1, 3) := by decide +kernel
theorem dX12_weakestOf_52 : decode prog_14_method_100_code 52 = .ok (.goto (-26), 3) := by decide +kernel
theorem dX12_weakestOf_55 : decode prog_14_method_100_code 55 = .ok (.iload_n 1, 1) := by decide +kernel
theorem dX12_weakestOf_56 : decode prog_14_method_100_code 56 = .ok (.ireturn, 1) := by decide +kernel
abbrev A_X12_weakestOf_26 (l : Launch) (E : bE) (Q : Int → Prop) (M : bM) : (Int × Int) → Prop := (fun t : Int × Int => V l E xX12_weakestOf (0, 0) 26 [(0, bR 11), (1, bI (t.1)), (2, bI (t.2))] [] M (b_pIp M Q))
abbrev X_X12_weakestOf_26 (l : Launch) (E : bE) (Q : Int → Prop) (M : bM) : (Int) → Prop := (fun t : Int => V l E xX12_weakestOf (0, 0) 55 [(1, bI t)] [] M (b_pIp M Q))
noncomputable def F_X12_weakestOf_s26 (v1 : Int) (v2 : Int) (M : bM) : Option ((Int × Int) ⊕ (Int)) :=
  if (M 11 86) ≤ v2 then (some (.inr (v1))) else (b_g (0 ≤ v2 ∧ v2 < 8) (b_bind (F_X12_pointsOf (M 219 v2) M) (fun x5 => b_bind (F_X12_lesser v1 x5 M) (fun x6 => b_g (b_i32 (v2 + 1)) (some (.inl (x6, (v2 + 1))))))))
theorem t_X12_weakestOf_s26 {l : Launch} {E : bE} {Q : Int → Prop} {v1 : Int} {v2 : Int} {M : bM} (h : b_wp (F_X12_weakestOf_s26 v1 v2 M) (Sum.elim (A_X12_weakestOf_26 l E Q M) (X_X12_weakestOf_26 l E Q M))) : V l E xX12_weakestOf (0, 0) 26 [(0, bR 11), (1, bI v1), (2, bI v2)] [] M (b_pIp M Q) := by
  unfold F_X12_weakestOf_s26 at h
  refine v_iload_n (f := 2) 2 rfl dX12_weakestOf_26 ?_
  refine v_aload_n (f := 0) 0 rfl dX12_weakestOf_27 ?_
  refine v_getI (kf := 86) (kz := 86) rfl kd_11 rfl ⟨by decide, by decide⟩ rfl wf_12_571 dX12_weakestOf_28 ?_
  refine v_icmp_ge (tgt := 55) dX12_weakestOf_31 (by decide) (fun c3 => ?_) (fun c3 => ?_)
  · replace h := b_wp_t c3 h
    refine v_sub (ls2 := [(1, bI _)]) [1] rfl ?_
    exact h
  · replace h := b_wp_f c3 h
    obtain ⟨g4, h⟩ := b_wp_g h
    refine v_iload_n (f := 1) 1 rfl dX12_weakestOf_34 ?_
    refine v_aload_n (f := 0) 0 rfl dX12_weakestOf_35 ?_
    refine v_aload_n (f := 0) 0 rfl dX12_weakestOf_36 ?_
    refine v_getR (kf := 88) (kz := 88) rfl kd_11 rfl ⟨by decide, by decide⟩ rfl wf_12_191 dX12_weakestOf_37 ?_
    refine v_iload_n (f := 2) 2 rfl dX12_weakestOf_40 ?_
    refine v_iaload kd_219 g4 (by decide) dX12_weakestOf_41 ?_
    refine v_cVIp (nA := 1) (As := [bI _]) (ix := 537) (cf_X12_pointsOf (b_wp_b h)) rfl kd_11 rfl rfl wc_X12_pointsOf wm_12_537 wi_X12_pointsOf ws_X12_pointsOf wn_12 ⟨by decide, by decide, by decide⟩ rfl ⟨by decide, by decide⟩ ⟨by decide, by decide⟩ (Nat.le_of_ble_eq_true rfl) dX12_weakestOf_42 (fun x5 h => ?_)
    refine v_cSIp (nA := 2) (As := [bI _, bI _]) (ix := 414) (cf_X12_lesser (b_wp_b h)) rfl wc_X12_lesser wm_12_414 wi_X12_lesser wn_12 ⟨by decide, by decide, by decide⟩ rfl ⟨by decide, by decide⟩ ⟨by decide, by decide⟩ (Nat.le_of_ble_eq_true rfl) dX12_weakestOf_45 (fun x6 h => ?_)
    obtain ⟨g7, h⟩ := b_wp_g h
    refine v_istore_n (g := 1) (i := 1) (ls' := [(1, bI _), (0, bR _), (2, bI _)]) rfl (by decide) dX12_weakestOf_48 rfl ?_
    refine v_iincN (ls' := [(2, bI _), (1, bI _), (0, bR _)]) 2 rfl (by decide) g7 dX12_weakestOf_49 rfl ?_
    refine v_goto (tgt := 26) dX12_weakestOf_52 (by decide) ?_
    refine v_sub (ls2 := [(0, bR _), (1, bI _), (2, bI _)]) [2, 1, 0] rfl ?_
    exact h
theorem l_X12_weakestOf_26 {l : Launch} {E : bE} {Q : Int → Prop} {M : bM} {s : Int × Int} (h : b_wp (b_loop (fun t => F_X12_weakestOf_s26 t.1 t.2 M) s) (X_X12_weakestOf_26 l E Q M)) : A_X12_weakestOf_26 l E Q M s := b_loop_wp (fun t h => t_X12_weakestOf_s26 h) s h
noncomputable def F_X12_weakestOf_b55 (v1 : Int) (M : bM) : Option (Int) :=
  some v1
theorem t_X12_weakestOf_b55 {l : Launch} {E : bE} {Q : Int → Prop} {v1 : Int} {M : bM} (h : b_wp (F_X12_weakestOf_b55 v1 M) (Q)) : V l E xX12_weakestOf (0, 0) 55 [(1, bI v1)] [] M (b_pIp M Q) := by
  unfold F_X12_weakestOf_b55 at h
  refine v_iload_n (f := 1) 0 rfl dX12_weakestOf_55 ?_
  refine v_ireturn rfl dX12_weakestOf_56 ⟨by decide, by decide⟩ ?_
  exact ⟨_, rfl, rfl, h⟩
noncomputable def F_X12_weakestOf_b23 (u0 : Int) (M : bM) : Option (Int) :=
  b_bind (b_loop (fun t => F_X12_weakestOf_s26 t.1 t.2 M) (u0, 1)) (fun t => F_X12_weakestOf_b55 t M)
theorem t_X12_weakestOf_b23 {l : Launch} {E : bE} {Q : Int → Prop} {u0 : Int} {M : bM} (h : b_wp (F_X12_weakestOf_b23 u0 M) (Q)) : V l E xX12_weakestOf (0, 0) 23 [(0, bR 11)] [bI u0] M (b_pIp M Q) := by
  unfold F_X12_weakestOf_b23 at h
  refine v_istore_n (g := 1) (i := 1) (ls' := [(1, bI _), (0, bR _)]) rfl (by decide) dX12_weakestOf_23 rfl ?_
  refine v_iconst ⟨by decide, by decide⟩ dX12_weakestOf_24 ?_
  refine v_istore_n (g := 2) (i := 2) (ls' := [(2, bI _), (1, bI _), (0, bR _)]) rfl (by decide) dX12_weakestOf_25 rfl ?_
  refine v_sub (ls2 := [(0, bR _), (1, bI _), (2, bI _)]) [2, 1, 0] rfl ?_
  refine l_X12_weakestOf_26 (b_wp_m (fun t h => ?_) (b_wp_b h))
  show V l E xX12_weakestOf (0, 0) 55 [(1, bI _)] [] _ (b_pIp M Q)
  exact t_X12_weakestOf_b55 h
noncomputable def F_X12_weakestOf (M : bM) : Option (Int) :=
  if (M 11 86) = 0 then (F_X12_weakestOf_b23 999 M) else (b_bind (F_X12_pointsOf (M 219 0) M) (fun x2 => F_X12_weakestOf_b23 x2 M))
theorem t_X12_weakestOf {l : Launch} {E : bE} {Q : Int → Prop} {M : bM} (h : b_wp (F_X12_weakestOf M) (Q)) : V l E xX12_weakestOf (0, 0) 0 [(0, bR 11)] [] M (b_pIp M Q) := by
  unfold F_X12_weakestOf at h
  refine v_aload_n (f := 0) 0 rfl dX12_weakestOf_0 ?_
  refine v_getI (kf := 86) (kz := 86) rfl kd_11 rfl ⟨by decide, by decide⟩ rfl wf_12_571 dX12_weakestOf_1 ?_
  refine v_if_ne (tgt := 13) dX12_weakestOf_4 (by decide) (fun c1 => ?_) (fun c1 => ?_)
  · replace h := b_wp_f c1 h
    refine v_aload_n (f := 0) 0 rfl dX12_weakestOf_13 ?_
    refine v_aload_n (f := 0) 0 rfl dX12_weakestOf_14 ?_
    refine v_getR (kf := 88) (kz := 88) rfl kd_11 rfl ⟨by decide, by decide⟩ rfl wf_12_191 dX12_weakestOf_15 ?_
    refine v_iconst ⟨by decide, by decide⟩ dX12_weakestOf_18 ?_
    refine v_iaload kd_219 ⟨by decide, by decide⟩ (by decide) dX12_weakestOf_19 ?_
    refine v_cVIp (nA := 1) (As := [bI _]) (ix := 537) (cf_X12_pointsOf (b_wp_b h)) rfl kd_11 rfl rfl wc_X12_pointsOf wm_12_537 wi_X12_pointsOf ws_X12_pointsOf wn_12 ⟨by decide, by decide, by decide⟩ rfl ⟨by decide, by decide⟩ ⟨by decide, by decide⟩ (Nat.le_of_ble_eq_true rfl) dX12_weakestOf_20 (fun x2 h => ?_)
    exact t_X12_weakestOf_b23 h
  · replace h := b_wp_t c1 h
    refine v_sipush ⟨by decide, by decide⟩ (by decide) dX12_weakestOf_7 ?_
    refine v_goto (tgt := 23) dX12_weakestOf_10 (by decide) ?_
    exact t_X12_weakestOf_b23 h
theorem cf_X12_weakestOf {l : Launch} {E : bE} {M : bM} {Q : Int → Prop} (h : b_wp (F_X12_weakestOf M) Q) : b_C l E xX12_weakestOf yX12_weakestOf [bR 11] M (b_pIp M Q) := b_met (by decide) ⟨rfl, rfl⟩ (Nat.le_of_ble_eq_true rfl) (fun _ _ => t_X12_weakestOf h)
abbrev xX12_fewest : bX := ("BurntHallModel", prog_14_method_101_code, 3, (Option.some Jvm.ClassFile.FieldType.int), b_rm 4 0 0, 0, "fewest")
abbrev yX12_fewest : MethodName := ⟨"BurntHallModel", "fewest", "(I)I"⟩
theorem dX12_fewest_0 : decode prog_14_method_101_code 0 = .ok (.aload_n 0, 1) := by decide +kernel
theorem dX12_fewest_1 : decode prog_14_method_101_code 1 = .ok (.iload_n 1, 1) := by decide +kernel
theorem dX12_fewest_2 : decode prog_14_method_101_code 2 = .ok (.invokevirtual 574, 3) := by decide +kernel
theorem dX12_fewest_5 : decode prog_14_method_101_code 5 = .ok (.iconst 0, 1) := by decide +kernel
theorem dX12_fewest_6 : decode prog_14_method_101_code 6 = .ok (.istore_n 2, 1) := by decide +kernel
theorem dX12_fewest_7 : decode prog_14_method_101_code 7 = .ok (.iload_n 2, 1) := by decide +kernel
theorem dX12_fewest_8 : decode prog_14_method_101_code 8 = .ok (.bipush 8, 2) := by decide +kernel
theorem dX12_fewest_10 : decode prog_14_method_101_code 10 = .ok (.if_icmp .ge 20, 3) := by decide +kernel
theorem dX12_fewest_13 : decode prog_14_method_101_code 13 = .ok (.aload_n 0, 1) := by decide +kernel
theorem dX12_fewest_14 : decode prog_14_method_101_code 14 = .ok (.iload_n 2, 1) := by decide +kernel
theorem dX12_fewest_15 : decode prog_14_method_101_code 15 = .ok (.invokevirtual 577, 3) := by decide +kernel
theorem dX12_fewest_18 : decode prog_14_method_101_code 18 = .ok (.iconst (-1), 1) := by decide +kernel
theorem dX12_fewest_19 : decode prog_14_method_101_code 19 = .ok (.if_icmp .eq 5, 3) := by decide +kernel
theorem dX12_fewest_22 : decode prog_14_method_101_code 22 = .ok (.iload_n 2, 1) := by decide +kernel
theorem dX12_fewest_23 : decode prog_14_method_101_code 23 = .ok (.ireturn, 1) := by decide +kernel
theorem dX12_fewest_24 : decode prog_14_method_101_code 24 = .ok (.iinc 2 1, 3) := by decide +kernel
theorem dX12_fewest_27 : decode prog_14_method_101_code 27 = .ok (.goto (-20), 3) := by decide +kernel
theorem dX12_fewest_30 : decode prog_14_method_101_code 30 = .ok (.iconst (-1), 1) := by decide +kernel
theorem dX12_fewest_31 : decode prog_14_method_101_code 31 = .ok (.ireturn, 1) := by decide +kernel
abbrev A_X12_fewest_7 (l : Launch) (E : bE) (Q : (Int × bM) → Prop) (M : bM) : (Int) → Prop := (fun t : Int => V l E xX12_fewest (0, 0) 7 [(0, bR 11), (2, bI t)] [] M (b_pI Q))
abbrev X_X12_fewest_7 (l : Launch) (E : bE) (Q : (Int × bM) → Prop) (M : bM) : ((Unit) ⊕ (Int × bM)) → Prop := (Sum.elim (fun t : Unit => V l E xX12_fewest (0, 0) 30 [] [] M (b_pI Q)) Q)
noncomputable def F_X12_fewest_s7 (v2 : Int) (M : bM) : Option ((Int) ⊕ ((Unit) ⊕ (Int × bM))) :=
  if 8 ≤ v2 then (some (.inr (.inl ()))) else (b_bind (F_X12_rootFor v2 M) (fun x3 => if x3 = (-1) then (b_g (b_i32 (v2 + 1)) (some (.inl ((v2 + 1))))) else (some (.inr (.inr (v2, M))))))
theorem t_X12_fewest_s7 {l : Launch} {E : bE} {Q : (Int × bM) → Prop} {v2 : Int} {M : bM} (h : b_wp (F_X12_fewest_s7 v2 M) (Sum.elim (A_X12_fewest_7 l E Q M) (X_X12_fewest_7 l E Q M))) : V l E xX12_fewest (0, 0) 7 [(0, bR 11), (2, bI v2)] [] M (b_pI Q) := by
  unfold F_X12_fewest_s7 at h
  refine v_iload_n (f := 2) 1 rfl dX12_fewest_7 ?_
  refine v_bipush ⟨by decide, by decide⟩ (by decide) dX12_fewest_8 ?_
  refine v_icmp_ge (tgt := 30) dX12_fewest_10 (by decide) (fun c2 => ?_) (fun c2 => ?_)
  · replace h := b_wp_t c2 h
    refine v_sub (ls2 := []) [] rfl ?_
    exact h
  · replace h := b_wp_f c2 h
    refine v_aload_n (f := 0) 0 rfl dX12_fewest_13 ?_
    refine v_iload_n (f := 2) 1 rfl dX12_fewest_14 ?_
    refine v_cVIp (nA := 1) (As := [bI _]) (ix := 577) (cf_X12_rootFor (b_wp_b h)) rfl kd_11 rfl rfl wc_X12_rootFor wm_12_577 wi_X12_rootFor ws_X12_rootFor wn_12 ⟨by decide, by decide, by decide⟩ rfl ⟨by decide, by decide⟩ ⟨by decide, by decide⟩ (Nat.le_of_ble_eq_true rfl) dX12_fewest_15 (fun x3 h => ?_)
    refine v_iconst ⟨by decide, by decide⟩ dX12_fewest_18 ?_
    refine v_icmp_eq (tgt := 24) dX12_fewest_19 (by decide) (fun c4 => ?_) (fun c4 => ?_)
    · replace h := b_wp_t c4 h
      obtain ⟨g5, h⟩ := b_wp_g h
      refine v_iincN (ls' := [(2, bI _), (0, bR _)]) 1 rfl (by decide) g5 dX12_fewest_24 rfl ?_
      refine v_goto (tgt := 7) dX12_fewest_27 (by decide) ?_
      refine v_sub (ls2 := [(0, bR _), (2, bI _)]) [1, 0] rfl ?_
      exact h
    · replace h := b_wp_f c4 h
      refine v_iload_n (f := 2) 1 rfl dX12_fewest_22 ?_
      refine v_ireturn rfl dX12_fewest_23 ⟨by decide, by decide⟩ ?_
      exact ⟨_, rfl, h⟩
theorem l_X12_fewest_7 {l : Launch} {E : bE} {Q : (Int × bM) → Prop} {M : bM} {s : Int} (h : b_wp (b_loop (fun t => F_X12_fewest_s7 t M) s) (X_X12_fewest_7 l E Q M)) : A_X12_fewest_7 l E Q M s := b_loop_wp (fun t h => t_X12_fewest_s7 h) s h
noncomputable def F_X12_fewest_b30 (M : bM) : Option (Int × bM) :=
  some ((-1), M)
theorem t_X12_fewest_b30 {l : Launch} {E : bE} {Q : (Int × bM) → Prop} {M : bM} (h : b_wp (F_X12_fewest_b30 M) (Q)) : V l E xX12_fewest (0, 0) 30 [] [] M (b_pI Q) := by
  unfold F_X12_fewest_b30 at h
  refine v_iconst ⟨by decide, by decide⟩ dX12_fewest_30 ?_
  refine v_ireturn rfl dX12_fewest_31 ⟨by decide, by decide⟩ ?_
  exact ⟨_, rfl, h⟩
noncomputable def F_X12_fewest (v1 : Int) (M : bM) : Option (Int × bM) :=
  b_bind (F_X12_makeLatest v1 M) (fun M1 => b_bind (b_loop (fun t => F_X12_fewest_s7 t M1) (0)) (Sum.elim (fun t => F_X12_fewest_b30 M1) some))
theorem t_X12_fewest {l : Launch} {E : bE} {Q : (Int × bM) → Prop} {v1 : Int} {M : bM} (h : b_wp (F_X12_fewest v1 M) (Q)) : V l E xX12_fewest (0, 0) 0 [(0, bR 11), (1, bI v1)] [] M (b_pI Q) := by
  unfold F_X12_fewest at h
  refine v_aload_n (f := 0) 0 rfl dX12_fewest_0 ?_
  refine v_iload_n (f := 1) 1 rfl dX12_fewest_1 ?_
  refine v_cVV (nA := 1) (As := [bI _]) (ix := 574) (cf_X12_makeLatest (b_wp_b h)) rfl kd_11 rfl rfl wc_X12_makeLatest wm_12_574 wi_X12_makeLatest ws_X12_makeLatest wn_12 ⟨by decide, by decide, by decide⟩ rfl ⟨by decide, by decide⟩ ⟨by decide, by decide⟩ (Nat.le_of_ble_eq_true rfl) dX12_fewest_2 (fun M1 h => ?_)
  refine v_iconst ⟨by decide, by decide⟩ dX12_fewest_5 ?_
  refine v_istore_n (g := 2) (i := 2) (ls' := [(2, bI _), (0, bR _), (1, bI _)]) rfl (by decide) dX12_fewest_6 rfl ?_
  refine v_sub (ls2 := [(0, bR _), (2, bI _)]) [1, 0] rfl ?_
  refine l_X12_fewest_7 (b_wp_m (fun t h => ?_) (b_wp_b h))
  cases t with
  | inr o => exact h
  | inl t =>
    show V l E xX12_fewest (0, 0) 30 [] [] _ (b_pI Q)
    replace h := b_wp_inl h
    exact t_X12_fewest_b30 h
theorem cf_X12_fewest {l : Launch} {E : bE} {M : bM} {v1 : Int} {Q : (Int × bM) → Prop} (h : b_wp (F_X12_fewest v1 M) Q) : b_C l E xX12_fewest yX12_fewest [bR 11, bI v1] M (b_pI Q) := b_met (by decide) ⟨rfl, rfl⟩ (Nat.le_of_ble_eq_true rfl) (fun _ _ => t_X12_fewest h)
abbrev xX12_makeChain : bX := ("BurntHallModel", prog_14_method_102_code, 10, (Option.some Jvm.ClassFile.FieldType.boolean), b_rm 5 0 0, 0, "makeChain")
abbrev yX12_makeChain : MethodName := ⟨"BurntHallModel", "makeChain", "(III)Z"⟩
theorem dX12_makeChain_0 : decode prog_14_method_102_code 0 = .ok (.aload_n 0, 1) := by decide +kernel
theorem dX12_makeChain_1 : decode prog_14_method_102_code 1 = .ok (.iload_n 3, 1) := by decide +kernel
theorem dX12_makeChain_2 : decode prog_14_method_102_code 2 = .ok (.invokevirtual 534, 3) := by decide +kernel
theorem dX12_makeChain_5 : decode prog_14_method_102_code 5 = .ok (.aload_n 0, 1) := by decide +kernel
theorem dX12_makeChain_6 : decode prog_14_method_102_code 6 = .ok (.aload_n 0, 1) := by decide +kernel
theorem dX12_makeChain_7 : decode prog_14_method_102_code 7 = .ok (.iload_n 3, 1) := by decide +kernel
theorem dX12_makeChain_8 : decode prog_14_method_102_code 8 = .ok (.bipush 8, 2) := by decide +kernel
theorem dX12_makeChain_10 : decode prog_14_method_102_code 10 = .ok (.invokevirtual 493, 3) := by decide +kernel
theorem dX12_makeChain_13 : decode prog_14_method_102_code 13 = .ok (.iconst 1, 1) := by decide +kernel
theorem dX12_makeChain_14 : decode prog_14_method_102_code 14 = .ok (.if_icmp .ne 7, 3) := by decide +kernel
theorem dX12_makeChain_17 : decode prog_14_method_102_code 17 = .ok (.iconst 1, 1) := by decide +kernel
theorem dX12_makeChain_18 : decode prog_14_method_102_code 18 = .ok (.goto 4, 3) := by decide +kernel
theorem dX12_makeChain_21 : decode prog_14_method_102_code 21 = .ok (.iconst 0, 1) := by decide +kernel
theorem dX12_makeChain_22 : decode prog_14_method_102_code 22 = .ok (.putfield 543, 3) := by decide +kernel
theorem dX12_makeChain_25 : decode prog_14_method_102_code 25 = .ok (.aload_n 0, 1) := by decide +kernel
theorem dX12_makeChain_26 : decode prog_14_method_102_code 26 = .ok (.iload_n 3, 1) := by decide +kernel
theorem dX12_makeChain_27 : decode prog_14_method_102_code 27 = .ok (.putfield 547, 3) := by decide +kernel
theorem dX12_makeChain_30 : decode prog_14_method_102_code 30 = .ok (.aload_n 0, 1) := by decide +kernel
theorem dX12_makeChain_31 : decode prog_14_method_102_code 31 = .ok (.aload_n 0, 1) := by decide +kernel
theorem dX12_makeChain_32 : decode prog_14_method_102_code 32 = .ok (.getfield 51, 3) := by decide +kernel
theorem dX12_makeChain_35 : decode prog_14_method_102_code 35 = .ok (.iload_n 1, 1) := by decide +kernel
theorem dX12_makeChain_36 : decode prog_14_method_102_code 36 = .ok (.laload, 1) := by decide +kernel
theorem dX12_makeChain_37 : decode prog_14_method_102_code 37 = .ok (.putfield 540, 3) := by decide +kernel
theorem dX12_makeChain_40 : decode prog_14_method_102_code 40 = .ok (.aload_n 0, 1) := by decide +kernel
theorem dX12_makeChain_41 : decode prog_14_method_102_code 41 = .ok (.iload_n 2, 1) := by decide +kernel
theorem dX12_makeChain_42 : decode prog_14_method_102_code 42 = .ok (.putfield 565, 3) := by decide +kernel
theorem dX12_makeChain_45 : decode prog_14_method_102_code 45 = .ok (.aload_n 0, 1) := by decide +kernel
theorem dX12_makeChain_46 : decode prog_14_method_102_code 46 = .ok (.iconst 0, 1) := by decide +kernel
theorem dX12_makeChain_47 : decode prog_14_method_102_code 47 = .ok (.putfield 571, 3) := by decide +kernel
theorem dX12_makeChain_50 : decode prog_14_method_102_code 50 = .ok (.aload_n 0, 1) := by decide +kernel
theorem dX12_makeChain_51 : decode prog_14_method_102_code 51 = .ok (.iconst 0, 1) := by decide +kernel
theorem dX12_makeChain_52 : decode prog_14_method_102_code 52 = .ok (.putfield 580, 3) := by decide +kernel
theorem dX12_makeChain_55 : decode prog_14_method_102_code 55 = .ok (.aload_n 0, 1) := by decide +kernel
theorem dX12_makeChain_56 : decode prog_14_method_102_code 56 = .ok (.sipush 999, 3) := by decide +kernel
theorem dX12_makeChain_59 : decode prog_14_method_102_code 59 = .ok (.putfield 583, 3) := by decide +kernel
theorem dX12_makeChain_62 : decode prog_14_method_102_code 62 = .ok (.iconst (-1), 1) := by decide +kernel
theorem dX12_makeChain_63 : decode prog_14_method_102_code 63 = .ok (.istore 4, 2) := by decide +kernel
theorem dX12_makeChain_65 : decode prog_14_method_102_code 65 = .ok (.aload_n 0, 1) := by decide +kernel
theorem dX12_makeChain_66 : decode prog_14_method_102_code 66 = .ok (.getfield 374, 3) := by decide +kernel
theorem dX12_makeChain_69 : decode prog_14_method_102_code 69 = .ok (.iconst 1, 1) := by decide +kernel
theorem dX12_makeChain_70 : decode prog_14_method_102_code 70 = .ok (.isub, 1) := by decide +kernel
theorem dX12_makeChain_71 : decode prog_14_method_102_code 71 = .ok (.istore 5, 2) := by decide +kernel
theorem dX12_makeChain_73 : decode prog_14_method_102_code 73 = .ok (.iload 5, 2) := by decide +kernel
theorem dX12_makeChain_75 : decode prog_14_method_102_code 75 = .ok (.ifCond .lt 36, 3) := by decide +kernel
theorem dX12_makeChain_78 : decode prog_14_method_102_code 78 = .ok (.aload_n 0, 1) := by decide +kernel
theorem dX12_makeChain_79 : decode prog_14_method_102_code 79 = .ok (.iload 5, 2) := by decide +kernel
theorem dX12_makeChain_81 : decode prog_14_method_102_code 81 = .ok (.invokevirtual 562, 3) := by decide +kernel
theorem dX12_makeChain_84 : decode prog_14_method_102_code 84 = .ok (.ifCond .eq 21, 3) := by decide +kernel
theorem dX12_makeChain_87 : decode prog_14_method_102_code 87 = .ok (.aload_n 0, 1) := by decide +kernel
theorem dX12_makeChain_88 : decode prog_14_method_102_code 88 = .ok (.aload_n 0, 1) := by decide +kernel
theorem dX12_makeChain_89 : decode prog_14_method_102_code 89 = .ok (.getfield 185, 3) := by decide +kernel
theorem dX12_makeChain_92 : decode prog_14_method_102_code 92 = .ok (.iload 5, 2) := by decide +kernel
theorem dX12_makeChain_94 : decode prog_14_method_102_code 94 = .ok (.iaload, 1) := by decide +kernel
theorem dX12_makeChain_95 : decode prog_14_method_102_code 95 = .ok (.invokevirtual 556, 3) := by decide +kernel
theorem dX12_makeChain_98 : decode prog_14_method_102_code 98 = .ok (.ifCond .eq 7, 3) := by decide +kernel
theorem dX12_makeChain_101 : decode prog_14_method_102_code 101 = .ok (.iload 5, 2) := by decide +kernel
theorem dX12_makeChain_103 : decode prog_14_method_102_code 103 = .ok (.istore 4, 2) := by decide +kernel
theorem dX12_makeChain_105 : decode prog_14_method_102_code 105 = .ok (.iinc 5 (-1), 3) := by decide +kernel
theorem dX12_makeChain_108 : decode prog_14_method_102_code 108 = .ok (.goto (-35), 3) := by decide +kernel
theorem dX12_makeChain_111 : decode prog_14_method_102_code 111 = .ok (.aload_n 0, 1) := by decide +kernel
theorem dX12_makeChain_112 : decode prog_14_method_102_code 112 = .ok (.invokevirtual 586, 3) := by decide +kernel
theorem dX12_makeChain_115 : decode prog_14_method_102_code 115 = .ok (.iload 4, 2) := by decide +kernel
theorem dX12_makeChain_117 : decode prog_14_method_102_code 117 = .ok (.iconst (-1), 1) := by decide +kernel
theorem dX12_makeChain_118 : decode prog_14_method_102_code 118 = .ok (.if_icmp .ne 7, 3) := by decide +kernel
theorem dX12_makeChain_121 : decode prog_14_method_102_code 121 = .ok (.iconst (-1), 1) := by decide +kernel
theorem dX12_makeChain_122 : decode prog_14_method_102_code 122 = .ok (.goto 6, 3) := by decide +kernel
theorem dX12_makeChain_125 : decode prog_14_method_102_code 125 = .ok (.sipush 999, 3) := by decide +kernel
theorem dX12_makeChain_128 : decode prog_14_method_102_code 128 = .ok (.istore 5, 2) := by decide +kernel
theorem dX12_makeChain_130 : decode prog_14_method_102_code 130 = .ok (.iconst 0, 1) := by decide +kernel
theorem dX12_makeChain_131 : decode prog_14_method_102_code 131 = .ok (.istore 6, 2) := by decide +kernel
theorem dX12_makeChain_133 : decode prog_14_method_102_code 133 = .ok (.iconst 0, 1) := by decide +kernel
theorem dX12_makeChain_134 : decode prog_14_method_102_code 134 = .ok (.istore 7, 2) := by decide +kernel
theorem dX12_makeChain_136 : decode prog_14_method_102_code 136 = .ok (.iload 7, 2) := by decide +kernel
theorem dX12_makeChain_138 : decode prog_14_method_102_code 138 = .ok (.aload_n 0, 1) := by decide +kernel
theorem dX12_makeChain_139 : decode prog_14_method_102_code 139 = .ok (.getfield 496, 3) := by decide +kernel
theorem dX12_makeChain_142 : decode prog_14_method_102_code 142 = .ok (.if_icmp .ge 48, 3) := by decide +kernel
theorem dX12_makeChain_145 : decode prog_14_method_102_code 145 = .ok (.aload_n 0, 1) := by decide +kernel
theorem dX12_makeChain_146 : decode prog_14_method_102_code 146 = .ok (.iload 7, 2) := by decide +kernel
theorem dX12_makeChain_148 : decode prog_14_method_102_code 148 = .ok (.invokevirtual 537, 3) := by decide +kernel
theorem dX12_makeChain_151 : decode prog_14_method_102_code 151 = .ok (.iload 5, 2) := by decide +kernel
theorem dX12_makeChain_153 : decode prog_14_method_102_code 153 = .ok (.if_icmp .le 31, 3) := by decide +kernel
theorem dX12_makeChain_156 : decode prog_14_method_102_code 156 = .ok (.aload_n 0, 1) := by decide +kernel
theorem dX12_makeChain_157 : decode prog_14_method_102_code 157 = .ok (.aload_n 0, 1) := by decide +kernel
theorem dX12_makeChain_158 : decode prog_14_method_102_code 158 = .ok (.iload 7, 2) := by decide +kernel
theorem dX12_makeChain_160 : decode prog_14_method_102_code 160 = .ok (.invokevirtual 537, 3) := by decide +kernel
theorem dX12_makeChain_163 : decode prog_14_method_102_code 163 = .ok (.invokevirtual 589, 3) := by decide +kernel
theorem dX12_makeChain_166 : decode prog_14_method_102_code 166 = .ok (.iconst (-1), 1) := by decide +kernel
theorem dX12_makeChain_167 : decode prog_14_method_102_code 167 = .ok (.if_icmp .ne 6, 3) := by decide +kernel
theorem dX12_makeChain_170 : decode prog_14_method_102_code 170 = .ok (.goto 14, 3) := by decide +kernel
theorem dX12_makeChain_173 : decode prog_14_method_102_code 173 = .ok (.aload_n 0, 1) := by decide +kernel
theorem dX12_makeChain_174 : decode prog_14_method_102_code 174 = .ok (.iload 7, 2) := by decide +kernel
theorem dX12_makeChain_176 : decode prog_14_method_102_code 176 = .ok (.invokevirtual 537, 3) := by decide +kernel
theorem dX12_makeChain_179 : decode prog_14_method_102_code 179 = .ok (.istore 5, 2) := by decide +kernel
theorem dX12_makeChain_181 : decode prog_14_method_102_code 181 = .ok (.iconst 1, 1) := by decide +kernel
theorem dX12_makeChain_182 : decode prog_14_method_102_code 182 = .ok (.istore 6, 2) := by decide +kernel
theorem dX12_makeChain_184 : decode prog_14_method_102_code 184 = .ok (.iinc 7 1, 3) := by decide +kernel
theorem dX12_makeChain_187 : decode prog_14_method_102_code 187 = .ok (.goto (-51), 3) := by decide +kernel
theorem dX12_makeChain_190 : decode prog_14_method_102_code 190 = .ok (.iload 6, 2) := by decide +kernel
theorem dX12_makeChain_192 : decode prog_14_method_102_code 192 = .ok (.ifCond .ne 17, 3) := by decide +kernel
theorem dX12_makeChain_195 : decode prog_14_method_102_code 195 = .ok (.iload 4, 2) := by decide +kernel
theorem dX12_makeChain_197 : decode prog_14_method_102_code 197 = .ok (.iconst (-1), 1) := by decide +kernel
theorem dX12_makeChain_198 : decode prog_14_method_102_code 198 = .ok (.if_icmp .eq 11, 3) := by decide +kernel
theorem dX12_makeChain_201 : decode prog_14_method_102_code 201 = .ok (.aload_n 0, 1) := by decide +kernel
theorem dX12_makeChain_202 : decode prog_14_method_102_code 202 = .ok (.iload 4, 2) := by decide +kernel
theorem dX12_makeChain_204 : decode prog_14_method_102_code 204 = .ok (.putfield 592, 3) := by decide +kernel
theorem dX12_makeChain_207 : decode prog_14_method_102_code 207 = .ok (.iconst 1, 1) := by decide +kernel
theorem dX12_makeChain_208 : decode prog_14_method_102_code 208 = .ok (.ireturn, 1) := by decide +kernel
theorem dX12_makeChain_209 : decode prog_14_method_102_code 209 = .ok (.iload 6, 2) := by decide +kernel
theorem dX12_makeChain_211 : decode prog_14_method_102_code 211 = .ok (.ifCond .eq 41, 3) := by decide +kernel
theorem dX12_makeChain_214 : decode prog_14_method_102_code 214 = .ok (.aload_n 0, 1) := by decide +kernel
theorem dX12_makeChain_215 : decode prog_14_method_102_code 215 = .ok (.iload 5, 2) := by decide +kernel
theorem dX12_makeChain_217 : decode prog_14_method_102_code 217 = .ok (.invokevirtual 589, 3) := by decide +kernel
theorem dX12_makeChain_220 : decode prog_14_method_102_code 220 = .ok (.istore 7, 2) := by decide +kernel
theorem dX12_makeChain_222 : decode prog_14_method_102_code 222 = .ok (.aload_n 0, 1) := by decide +kernel
theorem dX12_makeChain_223 : decode prog_14_method_102_code 223 = .ok (.aload_n 0, 1) := by decide +kernel
theorem dX12_makeChain_224 : decode prog_14_method_102_code 224 = .ok (.iload 7, 2) := by decide +kernel
theorem dX12_makeChain_226 : decode prog_14_method_102_code 226 = .ok (.invokevirtual 577, 3) := by decide +kernel
theorem dX12_makeChain_229 : decode prog_14_method_102_code 229 = .ok (.putfield 592, 3) := by decide +kernel
theorem dX12_makeChain_232 : decode prog_14_method_102_code 232 = .ok (.aload_n 0, 1) := by decide +kernel
theorem dX12_makeChain_233 : decode prog_14_method_102_code 233 = .ok (.aload_n 0, 1) := by decide +kernel
theorem dX12_makeChain_234 : decode prog_14_method_102_code 234 = .ok (.getfield 592, 3) := by decide +kernel
theorem dX12_makeChain_237 : decode prog_14_method_102_code 237 = .ok (.iload 7, 2) := by decide +kernel
theorem dX12_makeChain_239 : decode prog_14_method_102_code 239 = .ok (.invokevirtual 595, 3) := by decide +kernel
theorem dX12_makeChain_242 : decode prog_14_method_102_code 242 = .ok (.aload_n 0, 1) := by decide +kernel
theorem dX12_makeChain_243 : decode prog_14_method_102_code 243 = .ok (.aload_n 0, 1) := by decide +kernel
theorem dX12_makeChain_244 : decode prog_14_method_102_code 244 = .ok (.invokevirtual 598, 3) := by decide +kernel
theorem dX12_makeChain_247 : decode prog_14_method_102_code 247 = .ok (.putfield 583, 3) := by decide +kernel
theorem dX12_makeChain_250 : decode prog_14_method_102_code 250 = .ok (.iconst 1, 1) := by decide +kernel
theorem dX12_makeChain_251 : decode prog_14_method_102_code 251 = .ok (.ireturn, 1) := by decide +kernel
theorem dX12_makeChain_252 : decode prog_14_method_102_code 252 = .ok (.iconst (-1), 1) := by decide +kernel
theorem dX12_makeChain_253 : decode prog_14_method_102_code 253 = .ok (.istore 7, 2) := by decide +kernel
theorem dX12_makeChain_255 : decode prog_14_method_102_code 255 = .ok (.iconst 0, 1) := by decide +kernel
theorem dX12_makeChain_256 : decode prog_14_method_102_code 256 = .ok (.istore 8, 2) := by decide +kernel
theorem dX12_makeChain_258 : decode prog_14_method_102_code 258 = .ok (.iload 8, 2) := by decide +kernel
theorem dX12_makeChain_260 : decode prog_14_method_102_code 260 = .ok (.aload_n 0, 1) := by decide +kernel
theorem dX12_makeChain_261 : decode prog_14_method_102_code 261 = .ok (.getfield 374, 3) := by decide +kernel
theorem dX12_makeChain_264 : decode prog_14_method_102_code 264 = .ok (.if_icmp .ge 95, 3) := by decide +kernel
theorem dX12_makeChain_267 : decode prog_14_method_102_code 267 = .ok (.iconst 0, 1) := by decide +kernel
theorem dX12_makeChain_268 : decode prog_14_method_102_code 268 = .ok (.istore 9, 2) := by decide +kernel
theorem dX12_makeChain_270 : decode prog_14_method_102_code 270 = .ok (.iload 9, 2) := by decide +kernel
theorem dX12_makeChain_272 : decode prog_14_method_102_code 272 = .ok (.aload_n 0, 1) := by decide +kernel
theorem dX12_makeChain_273 : decode prog_14_method_102_code 273 = .ok (.getfield 496, 3) := by decide +kernel
theorem dX12_makeChain_276 : decode prog_14_method_102_code 276 = .ok (.if_icmp .ge 77, 3) := by decide +kernel
theorem dX12_makeChain_279 : decode prog_14_method_102_code 279 = .ok (.aload_n 0, 1) := by decide +kernel
theorem dX12_makeChain_280 : decode prog_14_method_102_code 280 = .ok (.iload 8, 2) := by decide +kernel
theorem dX12_makeChain_282 : decode prog_14_method_102_code 282 = .ok (.invokevirtual 562, 3) := by decide +kernel
theorem dX12_makeChain_285 : decode prog_14_method_102_code 285 = .ok (.ifCond .eq 68, 3) := by decide +kernel
theorem dX12_makeChain_288 : decode prog_14_method_102_code 288 = .ok (.aload_n 0, 1) := by decide +kernel
theorem dX12_makeChain_289 : decode prog_14_method_102_code 289 = .ok (.getfield 203, 3) := by decide +kernel
theorem dX12_makeChain_292 : decode prog_14_method_102_code 292 = .ok (.iload 9, 2) := by decide +kernel
theorem dX12_makeChain_294 : decode prog_14_method_102_code 294 = .ok (.baload, 1) := by decide +kernel
theorem dX12_makeChain_295 : decode prog_14_method_102_code 295 = .ok (.ifCond .eq 52, 3) := by decide +kernel
theorem dX12_makeChain_298 : decode prog_14_method_102_code 298 = .ok (.aload_n 0, 1) := by decide +kernel
theorem dX12_makeChain_299 : decode prog_14_method_102_code 299 = .ok (.getfield 170, 3) := by decide +kernel
theorem dX12_makeChain_302 : decode prog_14_method_102_code 302 = .ok (.iload 9, 2) := by decide +kernel
theorem dX12_makeChain_304 : decode prog_14_method_102_code 304 = .ok (.iaload, 1) := by decide +kernel
theorem dX12_makeChain_305 : decode prog_14_method_102_code 305 = .ok (.aload_n 0, 1) := by decide +kernel
theorem dX12_makeChain_306 : decode prog_14_method_102_code 306 = .ok (.getfield 188, 3) := by decide +kernel
theorem dX12_makeChain_309 : decode prog_14_method_102_code 309 = .ok (.iload 8, 2) := by decide +kernel
theorem dX12_makeChain_311 : decode prog_14_method_102_code 311 = .ok (.iaload, 1) := by decide +kernel
theorem dX12_makeChain_312 : decode prog_14_method_102_code 312 = .ok (.if_icmp .lt 35, 3) := by decide +kernel
theorem dX12_makeChain_315 : decode prog_14_method_102_code 315 = .ok (.aload_n 0, 1) := by decide +kernel
theorem dX12_makeChain_316 : decode prog_14_method_102_code 316 = .ok (.iload 9, 2) := by decide +kernel
theorem dX12_makeChain_318 : decode prog_14_method_102_code 318 = .ok (.invokevirtual 537, 3) := by decide +kernel
theorem dX12_makeChain_321 : decode prog_14_method_102_code 321 = .ok (.iload 5, 2) := by decide +kernel
theorem dX12_makeChain_323 : decode prog_14_method_102_code 323 = .ok (.if_icmp .gt 6, 3) := by decide +kernel
theorem dX12_makeChain_326 : decode prog_14_method_102_code 326 = .ok (.goto 21, 3) := by decide +kernel
theorem dX12_makeChain_329 : decode prog_14_method_102_code 329 = .ok (.aload_n 0, 1) := by decide +kernel
theorem dX12_makeChain_330 : decode prog_14_method_102_code 330 = .ok (.iload 9, 2) := by decide +kernel
theorem dX12_makeChain_332 : decode prog_14_method_102_code 332 = .ok (.invokevirtual 537, 3) := by decide +kernel
theorem dX12_makeChain_335 : decode prog_14_method_102_code 335 = .ok (.istore 5, 2) := by decide +kernel
theorem dX12_makeChain_337 : decode prog_14_method_102_code 337 = .ok (.iload 9, 2) := by decide +kernel
theorem dX12_makeChain_339 : decode prog_14_method_102_code 339 = .ok (.istore 7, 2) := by decide +kernel
theorem dX12_makeChain_341 : decode prog_14_method_102_code 341 = .ok (.aload_n 0, 1) := by decide +kernel
theorem dX12_makeChain_342 : decode prog_14_method_102_code 342 = .ok (.iload 8, 2) := by decide +kernel
theorem dX12_makeChain_344 : decode prog_14_method_102_code 344 = .ok (.putfield 592, 3) := by decide +kernel
theorem dX12_makeChain_347 : decode prog_14_method_102_code 347 = .ok (.iinc 9 1, 3) := by decide +kernel
theorem dX12_makeChain_350 : decode prog_14_method_102_code 350 = .ok (.goto (-80), 3) := by decide +kernel
theorem dX12_makeChain_353 : decode prog_14_method_102_code 353 = .ok (.iinc 8 1, 3) := by decide +kernel
theorem dX12_makeChain_356 : decode prog_14_method_102_code 356 = .ok (.goto (-98), 3) := by decide +kernel
theorem dX12_makeChain_359 : decode prog_14_method_102_code 359 = .ok (.iload 7, 2) := by decide +kernel
theorem dX12_makeChain_361 : decode prog_14_method_102_code 361 = .ok (.iconst (-1), 1) := by decide +kernel
theorem dX12_makeChain_362 : decode prog_14_method_102_code 362 = .ok (.if_icmp .ne 5, 3) := by decide +kernel
theorem dX12_makeChain_365 : decode prog_14_method_102_code 365 = .ok (.iconst 0, 1) := by decide +kernel
theorem dX12_makeChain_366 : decode prog_14_method_102_code 366 = .ok (.ireturn, 1) := by decide +kernel
theorem dX12_makeChain_367 : decode prog_14_method_102_code 367 = .ok (.aload_n 0, 1) := by decide +kernel
theorem dX12_makeChain_368 : decode prog_14_method_102_code 368 = .ok (.iconst 1, 1) := by decide +kernel
theorem dX12_makeChain_369 : decode prog_14_method_102_code 369 = .ok (.putfield 580, 3) := by decide +kernel
theorem dX12_makeChain_372 : decode prog_14_method_102_code 372 = .ok (.aload_n 0, 1) := by decide +kernel
theorem dX12_makeChain_373 : decode prog_14_method_102_code 373 = .ok (.getfield 191, 3) := by decide +kernel
theorem dX12_makeChain_376 : decode prog_14_method_102_code 376 = .ok (.iconst 0, 1) := by decide +kernel
theorem dX12_makeChain_377 : decode prog_14_method_102_code 377 = .ok (.iload 7, 2) := by decide +kernel
theorem dX12_makeChain_379 : decode prog_14_method_102_code 379 = .ok (.iastore, 1) := by decide +kernel
theorem dX12_makeChain_380 : decode prog_14_method_102_code 380 = .ok (.aload_n 0, 1) := by decide +kernel
theorem dX12_makeChain_381 : decode prog_14_method_102_code 381 = .ok (.iconst 1, 1) := by decide +kernel
theorem dX12_makeChain_382 : decode prog_14_method_102_code 382 = .ok (.putfield 571, 3) := by decide +kernel
theorem dX12_makeChain_385 : decode prog_14_method_102_code 385 = .ok (.aload_n 0, 1) := by decide +kernel
theorem dX12_makeChain_386 : decode prog_14_method_102_code 386 = .ok (.iload 5, 2) := by decide +kernel
theorem dX12_makeChain_388 : decode prog_14_method_102_code 388 = .ok (.putfield 583, 3) := by decide +kernel
theorem dX12_makeChain_391 : decode prog_14_method_102_code 391 = .ok (.iconst 1, 1) := by decide +kernel
theorem dX12_makeChain_392 : decode prog_14_method_102_code 392 = .ok (.ireturn, 1) := by decide +kernel
abbrev A_X12_makeChain_73 (l : Launch) (E : bE) (Q : (Int × bM) → Prop) (M : bM) : (Int × Int) → Prop := (fun t : Int × Int => V l E xX12_makeChain (0, 0) 73 [(0, bR 11), (4, bI (t.1)), (5, bI (t.2))] [] M (b_pI Q))
abbrev X_X12_makeChain_73 (l : Launch) (E : bE) (Q : (Int × bM) → Prop) (M : bM) : (Int) → Prop := (fun t : Int => V l E xX12_makeChain (0, 0) 111 [(0, bR 11), (4, bI t)] [] M (b_pI Q))
noncomputable def F_X12_makeChain_s73 (v4 : Int) (v5 : Int) (M : bM) : Option ((Int × Int) ⊕ (Int)) :=
  if v5 < 0 then (some (.inr (v4))) else (b_bind (F_X12_isRoot v5 M) (fun x16 => if x16 = 0 then (b_g (b_i32 (v5 + (-1))) (some (.inl (v4, (v5 + (-1)))))) else (b_g (0 ≤ v5 ∧ v5 < 60) (b_bind (F_X12_isEnd (M 217 v5) M) (fun x20 => if x20 = 0 then (b_g (b_i32 (v5 + (-1))) (some (.inl (v4, (v5 + (-1)))))) else (b_g (b_i32 (v5 + (-1))) (some (.inl (v5, (v5 + (-1)))))))))))
theorem t_X12_makeChain_s73 {l : Launch} {E : bE} {Q : (Int × bM) → Prop} {v4 : Int} {v5 : Int} {M : bM} (h : b_wp (F_X12_makeChain_s73 v4 v5 M) (Sum.elim (A_X12_makeChain_73 l E Q M) (X_X12_makeChain_73 l E Q M))) : V l E xX12_makeChain (0, 0) 73 [(0, bR 11), (4, bI v4), (5, bI v5)] [] M (b_pI Q) := by
  unfold F_X12_makeChain_s73 at h
  refine v_iload (i := 5) 2 rfl dX12_makeChain_73 ?_
  refine v_if_lt (tgt := 111) dX12_makeChain_75 (by decide) (fun c15 => ?_) (fun c15 => ?_)
  · replace h := b_wp_t c15 h
    refine v_sub (ls2 := [(0, bR _), (4, bI _)]) [0, 1] rfl ?_
    exact h
  · replace h := b_wp_f c15 h
    refine v_aload_n (f := 0) 0 rfl dX12_makeChain_78 ?_
    refine v_iload (i := 5) 2 rfl dX12_makeChain_79 ?_
    refine v_cVIp (nA := 1) (As := [bI _]) (ix := 562) (cf_X12_isRoot (b_wp_b h)) rfl kd_11 rfl rfl wc_X12_isRoot wm_12_562 wi_X12_isRoot ws_X12_isRoot wn_12 ⟨by decide, by decide, by decide⟩ rfl ⟨by decide, by decide⟩ ⟨by decide, by decide⟩ (Nat.le_of_ble_eq_true rfl) dX12_makeChain_81 (fun x16 h => ?_)
    refine v_if_eq (tgt := 105) dX12_makeChain_84 (by decide) (fun c17 => ?_) (fun c17 => ?_)
    · replace h := b_wp_t c17 h
      obtain ⟨g18, h⟩ := b_wp_g h
      refine v_iincN (ls' := [(5, bI _), (0, bR _), (4, bI _)]) 2 rfl (by decide) g18 dX12_makeChain_105 rfl ?_
      refine v_goto (tgt := 73) dX12_makeChain_108 (by decide) ?_
      refine v_sub (ls2 := [(0, bR _), (4, bI _), (5, bI _)]) [1, 2, 0] rfl ?_
      exact h
    · replace h := b_wp_f c17 h
      obtain ⟨g19, h⟩ := b_wp_g h
      refine v_aload_n (f := 0) 0 rfl dX12_makeChain_87 ?_
      refine v_aload_n (f := 0) 0 rfl dX12_makeChain_88 ?_
      refine v_getR (kf := 78) (kz := 78) rfl kd_11 rfl ⟨by decide, by decide⟩ rfl wf_12_185 dX12_makeChain_89 ?_
      refine v_iload (i := 5) 2 rfl dX12_makeChain_92 ?_
      refine v_iaload kd_217 g19 (by decide) dX12_makeChain_94 ?_
      refine v_cVIp (nA := 1) (As := [bI _]) (ix := 556) (cf_X12_isEnd (b_wp_b h)) rfl kd_11 rfl rfl wc_X12_isEnd wm_12_556 wi_X12_isEnd ws_X12_isEnd wn_12 ⟨by decide, by decide, by decide⟩ rfl ⟨by decide, by decide⟩ ⟨by decide, by decide⟩ (Nat.le_of_ble_eq_true rfl) dX12_makeChain_95 (fun x20 h => ?_)
      refine v_if_eq (tgt := 105) dX12_makeChain_98 (by decide) (fun c21 => ?_) (fun c21 => ?_)
      · replace h := b_wp_t c21 h
        obtain ⟨g22, h⟩ := b_wp_g h
        refine v_iincN (ls' := [(5, bI _), (0, bR _), (4, bI _)]) 2 rfl (by decide) g22 dX12_makeChain_105 rfl ?_
        refine v_goto (tgt := 73) dX12_makeChain_108 (by decide) ?_
        refine v_sub (ls2 := [(0, bR _), (4, bI _), (5, bI _)]) [1, 2, 0] rfl ?_
        exact h
      · replace h := b_wp_f c21 h
        obtain ⟨g23, h⟩ := b_wp_g h
        refine v_iload (i := 5) 2 rfl dX12_makeChain_101 ?_
        refine v_istore (i := 4) (ls' := [(4, bI _), (0, bR _), (5, bI _)]) (by decide) dX12_makeChain_103 rfl ?_
        refine v_iincN (ls' := [(5, bI _), (4, bI _), (0, bR _)]) 2 rfl (by decide) g23 dX12_makeChain_105 rfl ?_
        refine v_goto (tgt := 73) dX12_makeChain_108 (by decide) ?_
        refine v_sub (ls2 := [(0, bR _), (4, bI _), (5, bI _)]) [2, 1, 0] rfl ?_
        exact h
theorem l_X12_makeChain_73 {l : Launch} {E : bE} {Q : (Int × bM) → Prop} {M : bM} {s : Int × Int} (h : b_wp (b_loop (fun t => F_X12_makeChain_s73 t.1 t.2 M) s) (X_X12_makeChain_73 l E Q M)) : A_X12_makeChain_73 l E Q M s := b_loop_wp (fun t h => t_X12_makeChain_s73 h) s h
abbrev A_X12_makeChain_136 (l : Launch) (E : bE) (Q : (Int × bM) → Prop) (v4 : Int) : (Int × Int × Int × bM) → Prop := (fun t : Int × Int × Int × bM => V l E xX12_makeChain (0, 0) 136 [(0, bR 11), (4, bI v4), (5, bI (t.1)), (6, bI (t.2.1)), (7, bI (t.2.2.1))] [] t.2.2.2 (b_pI Q))
abbrev X_X12_makeChain_136 (l : Launch) (E : bE) (Q : (Int × bM) → Prop) (v4 : Int) : (Int × Int × bM) → Prop := (fun t : Int × Int × bM => V l E xX12_makeChain (0, 0) 190 [(0, bR 11), (4, bI v4), (5, bI (t.1)), (6, bI (t.2.1))] [] t.2.2 (b_pI Q))
noncomputable def F_X12_makeChain_s136 (v4 : Int) (v5 : Int) (v6 : Int) (v7 : Int) (M : bM) : Option ((Int × Int × Int × bM) ⊕ (Int × Int × bM)) :=
  if (M 11 52) ≤ v7 then (some (.inr (v5, v6, M))) else (b_bind (F_X12_pointsOf v7 M) (fun x27 => if x27 ≤ v5 then (b_g (b_i32 (v7 + 1)) (some (.inl (v5, v6, (v7 + 1), M)))) else (b_bind (F_X12_pointsOf v7 M) (fun x30 => b_bind (F_X12_fewest x30 M) (fun t => b_two t (fun x31 M32 => if x31 = (-1) then (b_g (b_i32 (v7 + 1)) (some (.inl (v5, v6, (v7 + 1), M32)))) else (b_bind (F_X12_pointsOf v7 M32) (fun x34 => b_g (b_i32 (v7 + 1)) (some (.inl (x34, 1, (v7 + 1), M32)))))))))))
theorem t_X12_makeChain_s136 {l : Launch} {E : bE} {Q : (Int × bM) → Prop} {v4 : Int} {v5 : Int} {v6 : Int} {v7 : Int} {M : bM} (h : b_wp (F_X12_makeChain_s136 v4 v5 v6 v7 M) (Sum.elim (A_X12_makeChain_136 l E Q v4) (X_X12_makeChain_136 l E Q v4))) : V l E xX12_makeChain (0, 0) 136 [(0, bR 11), (4, bI v4), (5, bI v5), (6, bI v6), (7, bI v7)] [] M (b_pI Q) := by
  unfold F_X12_makeChain_s136 at h
  refine v_iload (i := 7) 4 rfl dX12_makeChain_136 ?_
  refine v_aload_n (f := 0) 0 rfl dX12_makeChain_138 ?_
  refine v_getI (kf := 52) (kz := 52) rfl kd_11 rfl ⟨by decide, by decide⟩ rfl wf_12_496 dX12_makeChain_139 ?_
  refine v_icmp_ge (tgt := 190) dX12_makeChain_142 (by decide) (fun c26 => ?_) (fun c26 => ?_)
  · replace h := b_wp_t c26 h
    refine v_sub (ls2 := [(0, bR _), (4, bI _), (5, bI _), (6, bI _)]) [0, 1, 2, 3] rfl ?_
    exact h
  · replace h := b_wp_f c26 h
    refine v_aload_n (f := 0) 0 rfl dX12_makeChain_145 ?_
    refine v_iload (i := 7) 4 rfl dX12_makeChain_146 ?_
    refine v_cVIp (nA := 1) (As := [bI _]) (ix := 537) (cf_X12_pointsOf (b_wp_b h)) rfl kd_11 rfl rfl wc_X12_pointsOf wm_12_537 wi_X12_pointsOf ws_X12_pointsOf wn_12 ⟨by decide, by decide, by decide⟩ rfl ⟨by decide, by decide⟩ ⟨by decide, by decide⟩ (Nat.le_of_ble_eq_true rfl) dX12_makeChain_148 (fun x27 h => ?_)
    refine v_iload (i := 5) 2 rfl dX12_makeChain_151 ?_
    refine v_icmp_le (tgt := 184) dX12_makeChain_153 (by decide) (fun c28 => ?_) (fun c28 => ?_)
    · replace h := b_wp_t c28 h
      obtain ⟨g29, h⟩ := b_wp_g h
      refine v_iincN (ls' := [(7, bI _), (0, bR _), (4, bI _), (5, bI _), (6, bI _)]) 4 rfl (by decide) g29 dX12_makeChain_184 rfl ?_
      refine v_goto (tgt := 136) dX12_makeChain_187 (by decide) ?_
      refine v_sub (ls2 := [(0, bR _), (4, bI _), (5, bI _), (6, bI _), (7, bI _)]) [1, 2, 3, 4, 0] rfl ?_
      exact h
    · replace h := b_wp_f c28 h
      refine v_aload_n (f := 0) 0 rfl dX12_makeChain_156 ?_
      refine v_aload_n (f := 0) 0 rfl dX12_makeChain_157 ?_
      refine v_iload (i := 7) 4 rfl dX12_makeChain_158 ?_
      refine v_cVIp (nA := 1) (As := [bI _]) (ix := 537) (cf_X12_pointsOf (b_wp_b h)) rfl kd_11 rfl rfl wc_X12_pointsOf wm_12_537 wi_X12_pointsOf ws_X12_pointsOf wn_12 ⟨by decide, by decide, by decide⟩ rfl ⟨by decide, by decide⟩ ⟨by decide, by decide⟩ (Nat.le_of_ble_eq_true rfl) dX12_makeChain_160 (fun x30 h => ?_)
      refine v_cVI (nA := 1) (As := [bI _]) (ix := 589) (cf_X12_fewest (b_wp_b h)) rfl kd_11 rfl rfl wc_X12_fewest wm_12_589 wi_X12_fewest ws_X12_fewest wn_12 ⟨by decide, by decide, by decide⟩ rfl ⟨by decide, by decide⟩ ⟨by decide, by decide⟩ (Nat.le_of_ble_eq_true rfl) dX12_makeChain_163 (fun x31 M32 h => ?_)
      replace h := b_wp_two h
      refine v_iconst ⟨by decide, by decide⟩ dX12_makeChain_166 ?_
      refine v_icmp_ne (tgt := 173) dX12_makeChain_167 (by decide) (fun c33 => ?_) (fun c33 => ?_)
      · replace h := b_wp_f c33 h
        refine v_aload_n (f := 0) 0 rfl dX12_makeChain_173 ?_
        refine v_iload (i := 7) 4 rfl dX12_makeChain_174 ?_
        refine v_cVIp (nA := 1) (As := [bI _]) (ix := 537) (cf_X12_pointsOf (b_wp_b h)) rfl kd_11 rfl rfl wc_X12_pointsOf wm_12_537 wi_X12_pointsOf ws_X12_pointsOf wn_12 ⟨by decide, by decide, by decide⟩ rfl ⟨by decide, by decide⟩ ⟨by decide, by decide⟩ (Nat.le_of_ble_eq_true rfl) dX12_makeChain_176 (fun x34 h => ?_)
        obtain ⟨g35, h⟩ := b_wp_g h
        refine v_istore (i := 5) (ls' := [(5, bI _), (0, bR _), (4, bI _), (6, bI _), (7, bI _)]) (by decide) dX12_makeChain_179 rfl ?_
        refine v_iconst ⟨by decide, by decide⟩ dX12_makeChain_181 ?_
        refine v_istore (i := 6) (ls' := [(6, bI _), (5, bI _), (0, bR _), (4, bI _), (7, bI _)]) (by decide) dX12_makeChain_182 rfl ?_
        refine v_iincN (ls' := [(7, bI _), (6, bI _), (5, bI _), (0, bR _), (4, bI _)]) 4 rfl (by decide) g35 dX12_makeChain_184 rfl ?_
        refine v_goto (tgt := 136) dX12_makeChain_187 (by decide) ?_
        refine v_sub (ls2 := [(0, bR _), (4, bI _), (5, bI _), (6, bI _), (7, bI _)]) [3, 4, 2, 1, 0] rfl ?_
        exact h
      · replace h := b_wp_t c33 h
        obtain ⟨g36, h⟩ := b_wp_g h
        refine v_goto (tgt := 184) dX12_makeChain_170 (by decide) ?_
        refine v_iincN (ls' := [(7, bI _), (0, bR _), (4, bI _), (5, bI _), (6, bI _)]) 4 rfl (by decide) g36 dX12_makeChain_184 rfl ?_
        refine v_goto (tgt := 136) dX12_makeChain_187 (by decide) ?_
        refine v_sub (ls2 := [(0, bR _), (4, bI _), (5, bI _), (6, bI _), (7, bI _)]) [1, 2, 3, 4, 0] rfl ?_
        exact h
theorem l_X12_makeChain_136 {l : Launch} {E : bE} {Q : (Int × bM) → Prop} {v4 : Int} {s : Int × Int × Int × bM} (h : b_wp (b_loop (fun t => F_X12_makeChain_s136 v4 t.1 t.2.1 t.2.2.1 t.2.2.2) s) (X_X12_makeChain_136 l E Q v4)) : A_X12_makeChain_136 l E Q v4 s := b_loop_wp (fun t h => t_X12_makeChain_s136 h) s h
abbrev A_X12_makeChain_258 (l : Launch) (E : bE) (Q : (Int × bM) → Prop) : (Int × Int × Int × bM) → Prop := (fun t : Int × Int × Int × bM => V l E xX12_makeChain (0, 0) 258 [(0, bR 11), (5, bI (t.1)), (7, bI (t.2.1)), (8, bI (t.2.2.1))] [] t.2.2.2 (b_pI Q))
abbrev X_X12_makeChain_258 (l : Launch) (E : bE) (Q : (Int × bM) → Prop) : (Int × Int × bM) → Prop := (fun t : Int × Int × bM => V l E xX12_makeChain (0, 0) 359 [(0, bR 11), (5, bI (t.1)), (7, bI (t.2.1))] [] t.2.2 (b_pI Q))
abbrev A_X12_makeChain_270 (l : Launch) (E : bE) (Q : (Int × bM) → Prop) (v8 : Int) : (Int × Int × Int × bM) → Prop := (fun t : Int × Int × Int × bM => V l E xX12_makeChain (0, 0) 270 [(0, bR 11), (5, bI (t.1)), (7, bI (t.2.1)), (8, bI v8), (9, bI (t.2.2.1))] [] t.2.2.2 (b_pI Q))
abbrev X_X12_makeChain_270 (l : Launch) (E : bE) (Q : (Int × bM) → Prop) (v8 : Int) : (Int × Int × bM) → Prop := (fun t : Int × Int × bM => V l E xX12_makeChain (0, 0) 353 [(0, bR 11), (5, bI (t.1)), (7, bI (t.2.1)), (8, bI v8)] [] t.2.2 (b_pI Q))
noncomputable def F_X12_makeChain_s270 (v5 : Int) (v7 : Int) (v8 : Int) (v9 : Int) (M : bM) : Option ((Int × Int × Int × bM) ⊕ (Int × Int × bM)) :=
  if (M 11 52) ≤ v9 then (some (.inr (v5, v7, M))) else (b_bind (F_X12_isRoot v8 M) (fun x41 => if x41 = 0 then (some (.inr (v5, v7, M))) else (b_g (0 ≤ v9 ∧ v9 < 30) (if (M 223 v9) = 0 then (b_g (b_i32 (v9 + 1)) (some (.inl (v5, v7, (v9 + 1), M)))) else (b_g ((0 ≤ v9 ∧ v9 < 30) ∧ (0 ≤ v8 ∧ v8 < 60)) (if (M 212 v9) < (M 218 v8) then (b_g (b_i32 (v9 + 1)) (some (.inl (v5, v7, (v9 + 1), M)))) else (b_bind (F_X12_pointsOf v9 M) (fun x50 => if v5 < x50 then (b_bind (F_X12_pointsOf v9 M) (fun x52 => b_let (b_up M 11 87 v8) (fun M53 => b_g (b_i32 (v9 + 1)) (some (.inl (x52, v9, (v9 + 1), M53)))))) else (b_g (b_i32 (v9 + 1)) (some (.inl (v5, v7, (v9 + 1), M))))))))))))
theorem t_X12_makeChain_s270 {l : Launch} {E : bE} {Q : (Int × bM) → Prop} {v5 : Int} {v7 : Int} {v8 : Int} {v9 : Int} {M : bM} (h : b_wp (F_X12_makeChain_s270 v5 v7 v8 v9 M) (Sum.elim (A_X12_makeChain_270 l E Q v8) (X_X12_makeChain_270 l E Q v8))) : V l E xX12_makeChain (0, 0) 270 [(0, bR 11), (5, bI v5), (7, bI v7), (8, bI v8), (9, bI v9)] [] M (b_pI Q) := by
  unfold F_X12_makeChain_s270 at h
  refine v_iload (i := 9) 4 rfl dX12_makeChain_270 ?_
  refine v_aload_n (f := 0) 0 rfl dX12_makeChain_272 ?_
  refine v_getI (kf := 52) (kz := 52) rfl kd_11 rfl ⟨by decide, by decide⟩ rfl wf_12_496 dX12_makeChain_273 ?_
  refine v_icmp_ge (tgt := 353) dX12_makeChain_276 (by decide) (fun c40 => ?_) (fun c40 => ?_)
  · replace h := b_wp_t c40 h
    refine v_sub (ls2 := [(0, bR _), (5, bI _), (7, bI _), (8, bI _)]) [0, 1, 2, 3] rfl ?_
    exact h
  · replace h := b_wp_f c40 h
    refine v_aload_n (f := 0) 0 rfl dX12_makeChain_279 ?_
    refine v_iload (i := 8) 3 rfl dX12_makeChain_280 ?_
    refine v_cVIp (nA := 1) (As := [bI _]) (ix := 562) (cf_X12_isRoot (b_wp_b h)) rfl kd_11 rfl rfl wc_X12_isRoot wm_12_562 wi_X12_isRoot ws_X12_isRoot wn_12 ⟨by decide, by decide, by decide⟩ rfl ⟨by decide, by decide⟩ ⟨by decide, by decide⟩ (Nat.le_of_ble_eq_true rfl) dX12_makeChain_282 (fun x41 h => ?_)
    refine v_if_eq (tgt := 353) dX12_makeChain_285 (by decide) (fun c42 => ?_) (fun c42 => ?_)
    · replace h := b_wp_t c42 h
      refine v_sub (ls2 := [(0, bR _), (5, bI _), (7, bI _), (8, bI _)]) [0, 1, 2, 3] rfl ?_
      exact h
    · replace h := b_wp_f c42 h
      obtain ⟨g43, h⟩ := b_wp_g h
      refine v_aload_n (f := 0) 0 rfl dX12_makeChain_288 ?_
      refine v_getR (kf := 92) (kz := 92) rfl kd_11 rfl ⟨by decide, by decide⟩ rfl wf_12_203 dX12_makeChain_289 ?_
      refine v_iload (i := 9) 4 rfl dX12_makeChain_292 ?_
      refine v_zaload kd_223 g43 (by decide) dX12_makeChain_294 ?_
      refine v_if_eq (tgt := 347) dX12_makeChain_295 (by decide) (fun c44 => ?_) (fun c44 => ?_)
      · replace h := b_wp_t c44 h
        obtain ⟨g45, h⟩ := b_wp_g h
        refine v_iincN (ls' := [(9, bI _), (0, bR _), (5, bI _), (7, bI _), (8, bI _)]) 4 rfl (by decide) g45 dX12_makeChain_347 rfl ?_
        refine v_goto (tgt := 270) dX12_makeChain_350 (by decide) ?_
        refine v_sub (ls2 := [(0, bR _), (5, bI _), (7, bI _), (8, bI _), (9, bI _)]) [1, 2, 3, 4, 0] rfl ?_
        exact h
      · replace h := b_wp_f c44 h
        obtain ⟨⟨g46, g47⟩, h⟩ := b_wp_g h
        refine v_aload_n (f := 0) 0 rfl dX12_makeChain_298 ?_
        refine v_getR (kf := 73) (kz := 73) rfl kd_11 rfl ⟨by decide, by decide⟩ rfl wf_12_170 dX12_makeChain_299 ?_
        refine v_iload (i := 9) 4 rfl dX12_makeChain_302 ?_
        refine v_iaload kd_212 g46 (by decide) dX12_makeChain_304 ?_
        refine v_aload_n (f := 0) 0 rfl dX12_makeChain_305 ?_
        refine v_getR (kf := 79) (kz := 79) rfl kd_11 rfl ⟨by decide, by decide⟩ rfl wf_12_188 dX12_makeChain_306 ?_
        refine v_iload (i := 8) 3 rfl dX12_makeChain_309 ?_
        refine v_iaload kd_218 g47 (by decide) dX12_makeChain_311 ?_
        refine v_icmp_lt (tgt := 347) dX12_makeChain_312 (by decide) (fun c48 => ?_) (fun c48 => ?_)
        · replace h := b_wp_t c48 h
          obtain ⟨g49, h⟩ := b_wp_g h
          refine v_iincN (ls' := [(9, bI _), (0, bR _), (5, bI _), (7, bI _), (8, bI _)]) 4 rfl (by decide) g49 dX12_makeChain_347 rfl ?_
          refine v_goto (tgt := 270) dX12_makeChain_350 (by decide) ?_
          refine v_sub (ls2 := [(0, bR _), (5, bI _), (7, bI _), (8, bI _), (9, bI _)]) [1, 2, 3, 4, 0] rfl ?_
          exact h
        · replace h := b_wp_f c48 h
          refine v_aload_n (f := 0) 0 rfl dX12_makeChain_315 ?_
          refine v_iload (i := 9) 4 rfl dX12_makeChain_316 ?_
          refine v_cVIp (nA := 1) (As := [bI _]) (ix := 537) (cf_X12_pointsOf (b_wp_b h)) rfl kd_11 rfl rfl wc_X12_pointsOf wm_12_537 wi_X12_pointsOf ws_X12_pointsOf wn_12 ⟨by decide, by decide, by decide⟩ rfl ⟨by decide, by decide⟩ ⟨by decide, by decide⟩ (Nat.le_of_ble_eq_true rfl) dX12_makeChain_318 (fun x50 h => ?_)
          refine v_iload (i := 5) 1 rfl dX12_makeChain_321 ?_
          refine v_icmp_gt (tgt := 329) dX12_makeChain_323 (by decide) (fun c51 => ?_) (fun c51 => ?_)
          · replace h := b_wp_t c51 h
            refine v_aload_n (f := 0) 0 rfl dX12_makeChain_329 ?_
            refine v_iload (i := 9) 4 rfl dX12_makeChain_330 ?_
            refine v_cVIp (nA := 1) (As := [bI _]) (ix := 537) (cf_X12_pointsOf (b_wp_b h)) rfl kd_11 rfl rfl wc_X12_pointsOf wm_12_537 wi_X12_pointsOf ws_X12_pointsOf wn_12 ⟨by decide, by decide, by decide⟩ rfl ⟨by decide, by decide⟩ ⟨by decide, by decide⟩ (Nat.le_of_ble_eq_true rfl) dX12_makeChain_332 (fun x52 h => ?_)
            refine v_istore (i := 5) (ls' := [(5, bI _), (0, bR _), (7, bI _), (8, bI _), (9, bI _)]) (by decide) dX12_makeChain_335 rfl ?_
            refine v_iload (i := 9) 4 rfl dX12_makeChain_337 ?_
            refine v_istore (i := 7) (ls' := [(7, bI _), (5, bI _), (0, bR _), (8, bI _), (9, bI _)]) (by decide) dX12_makeChain_339 rfl ?_
            refine v_aload_n (f := 0) 2 rfl dX12_makeChain_341 ?_
            refine v_iload (i := 8) 3 rfl dX12_makeChain_342 ?_
            refine v_putI (kf := 87) (kz := 87) rfl kd_11 rfl ⟨by decide, by decide⟩ rfl wf_12_592 rfl rfl dX12_makeChain_344 ?_
            replace h := b_wp_l h
            obtain ⟨g54, h⟩ := b_wp_g h
            refine v_iincN (ls' := [(9, bI _), (7, bI _), (5, bI _), (0, bR _), (8, bI _)]) 4 rfl (by decide) g54 dX12_makeChain_347 rfl ?_
            refine v_goto (tgt := 270) dX12_makeChain_350 (by decide) ?_
            refine v_sub (ls2 := [(0, bR _), (5, bI _), (7, bI _), (8, bI _), (9, bI _)]) [3, 2, 1, 4, 0] rfl ?_
            exact h
          · replace h := b_wp_f c51 h
            obtain ⟨g55, h⟩ := b_wp_g h
            refine v_goto (tgt := 347) dX12_makeChain_326 (by decide) ?_
            refine v_iincN (ls' := [(9, bI _), (0, bR _), (5, bI _), (7, bI _), (8, bI _)]) 4 rfl (by decide) g55 dX12_makeChain_347 rfl ?_
            refine v_goto (tgt := 270) dX12_makeChain_350 (by decide) ?_
            refine v_sub (ls2 := [(0, bR _), (5, bI _), (7, bI _), (8, bI _), (9, bI _)]) [1, 2, 3, 4, 0] rfl ?_
            exact h
theorem l_X12_makeChain_270 {l : Launch} {E : bE} {Q : (Int × bM) → Prop} {v8 : Int} {s : Int × Int × Int × bM} (h : b_wp (b_loop (fun t => F_X12_makeChain_s270 t.1 t.2.1 v8 t.2.2.1 t.2.2.2) s) (X_X12_makeChain_270 l E Q v8)) : A_X12_makeChain_270 l E Q v8 s := b_loop_wp (fun t h => t_X12_makeChain_s270 h) s h
noncomputable def F_X12_makeChain_b353 (v5 : Int) (v7 : Int) (v8 : Int) (M : bM) : Option ((Int × Int × Int × bM) ⊕ (Int × Int × bM)) :=
  b_g (b_i32 (v8 + 1)) (some (.inl (v5, v7, (v8 + 1), M)))
theorem t_X12_makeChain_b353 {l : Launch} {E : bE} {Q : (Int × bM) → Prop} {v5 : Int} {v7 : Int} {v8 : Int} {M : bM} (h : b_wp (F_X12_makeChain_b353 v5 v7 v8 M) (Sum.elim (A_X12_makeChain_258 l E Q ) (X_X12_makeChain_258 l E Q ))) : V l E xX12_makeChain (0, 0) 353 [(0, bR 11), (5, bI v5), (7, bI v7), (8, bI v8)] [] M (b_pI Q) := by
  unfold F_X12_makeChain_b353 at h
  obtain ⟨g56, h⟩ := b_wp_g h
  refine v_iincN (ls' := [(8, bI _), (0, bR _), (5, bI _), (7, bI _)]) 3 rfl (by decide) g56 dX12_makeChain_353 rfl ?_
  refine v_goto (tgt := 258) dX12_makeChain_356 (by decide) ?_
  refine v_sub (ls2 := [(0, bR _), (5, bI _), (7, bI _), (8, bI _)]) [1, 2, 3, 0] rfl ?_
  exact h
noncomputable def F_X12_makeChain_s258 (v5 : Int) (v7 : Int) (v8 : Int) (M : bM) : Option ((Int × Int × Int × bM) ⊕ (Int × Int × bM)) :=
  if (M 11 20) ≤ v8 then (some (.inr (v5, v7, M))) else (b_bind (b_loop (fun t => F_X12_makeChain_s270 t.1 t.2.1 v8 t.2.2.1 t.2.2.2) (v5, v7, 0, M)) (fun t => F_X12_makeChain_b353 (t.1) (t.2.1) v8 (t.2.2)))
theorem t_X12_makeChain_s258 {l : Launch} {E : bE} {Q : (Int × bM) → Prop} {v5 : Int} {v7 : Int} {v8 : Int} {M : bM} (h : b_wp (F_X12_makeChain_s258 v5 v7 v8 M) (Sum.elim (A_X12_makeChain_258 l E Q ) (X_X12_makeChain_258 l E Q ))) : V l E xX12_makeChain (0, 0) 258 [(0, bR 11), (5, bI v5), (7, bI v7), (8, bI v8)] [] M (b_pI Q) := by
  unfold F_X12_makeChain_s258 at h
  refine v_iload (i := 8) 3 rfl dX12_makeChain_258 ?_
  refine v_aload_n (f := 0) 0 rfl dX12_makeChain_260 ?_
  refine v_getI (kf := 20) (kz := 20) rfl kd_11 rfl ⟨by decide, by decide⟩ rfl wf_12_374 dX12_makeChain_261 ?_
  refine v_icmp_ge (tgt := 359) dX12_makeChain_264 (by decide) (fun c39 => ?_) (fun c39 => ?_)
  · replace h := b_wp_t c39 h
    refine v_sub (ls2 := [(0, bR _), (5, bI _), (7, bI _)]) [0, 1, 2] rfl ?_
    exact h
  · replace h := b_wp_f c39 h
    refine v_iconst ⟨by decide, by decide⟩ dX12_makeChain_267 ?_
    refine v_istore (i := 9) (ls' := [(9, bI _), (0, bR _), (5, bI _), (7, bI _), (8, bI _)]) (by decide) dX12_makeChain_268 rfl ?_
    refine v_sub (ls2 := [(0, bR _), (5, bI _), (7, bI _), (8, bI _), (9, bI _)]) [1, 2, 3, 4, 0] rfl ?_
    refine l_X12_makeChain_270 (b_wp_m (fun t h => ?_) (b_wp_b h))
    show V l E xX12_makeChain (0, 0) 353 [(0, bR 11), (5, bI _), (7, bI _), (8, bI _)] [] _ (b_pI Q)
    exact t_X12_makeChain_b353 h
theorem l_X12_makeChain_258 {l : Launch} {E : bE} {Q : (Int × bM) → Prop} {s : Int × Int × Int × bM} (h : b_wp (b_loop (fun t => F_X12_makeChain_s258 t.1 t.2.1 t.2.2.1 t.2.2.2) s) (X_X12_makeChain_258 l E Q )) : A_X12_makeChain_258 l E Q  s := b_loop_wp (fun t h => t_X12_makeChain_s258 h) s h
noncomputable def F_X12_makeChain_b359 (v5 : Int) (v7 : Int) (M : bM) : Option (Int × bM) :=
  if v7 = (-1) then (some (0, M)) else (b_let (b_up M 11 84 1) (fun M58 => b_let (b_up M58 219 0 v7) (fun M59 => b_let (b_up M59 11 86 1) (fun M60 => b_let (b_up M60 11 85 v5) (fun M61 => some (1, M61))))))
theorem t_X12_makeChain_b359 {l : Launch} {E : bE} {Q : (Int × bM) → Prop} {v5 : Int} {v7 : Int} {M : bM} (h : b_wp (F_X12_makeChain_b359 v5 v7 M) (Q)) : V l E xX12_makeChain (0, 0) 359 [(0, bR 11), (5, bI v5), (7, bI v7)] [] M (b_pI Q) := by
  unfold F_X12_makeChain_b359 at h
  refine v_iload (i := 7) 2 rfl dX12_makeChain_359 ?_
  refine v_iconst ⟨by decide, by decide⟩ dX12_makeChain_361 ?_
  refine v_icmp_ne (tgt := 367) dX12_makeChain_362 (by decide) (fun c57 => ?_) (fun c57 => ?_)
  · replace h := b_wp_f c57 h
    refine v_aload_n (f := 0) 0 rfl dX12_makeChain_367 ?_
    refine v_iconst ⟨by decide, by decide⟩ dX12_makeChain_368 ?_
    refine v_putI (kf := 84) (kz := 84) rfl kd_11 rfl ⟨by decide, by decide⟩ rfl wf_12_580 rfl rfl dX12_makeChain_369 ?_
    replace h := b_wp_l h
    refine v_aload_n (f := 0) 0 rfl dX12_makeChain_372 ?_
    refine v_getR (kf := 88) (kz := 88) rfl kd_11 rfl ⟨by decide, by decide⟩ rfl wf_12_191 dX12_makeChain_373 ?_
    refine v_iconst ⟨by decide, by decide⟩ dX12_makeChain_376 ?_
    refine v_iload (i := 7) 2 rfl dX12_makeChain_377 ?_
    refine v_iastore kd_219 ⟨by decide, by decide⟩ (by decide) dX12_makeChain_379 ?_
    replace h := b_wp_l h
    refine v_aload_n (f := 0) 0 rfl dX12_makeChain_380 ?_
    refine v_iconst ⟨by decide, by decide⟩ dX12_makeChain_381 ?_
    refine v_putI (kf := 86) (kz := 86) rfl kd_11 rfl ⟨by decide, by decide⟩ rfl wf_12_571 rfl rfl dX12_makeChain_382 ?_
    replace h := b_wp_l h
    refine v_aload_n (f := 0) 0 rfl dX12_makeChain_385 ?_
    refine v_iload (i := 5) 1 rfl dX12_makeChain_386 ?_
    refine v_putI (kf := 85) (kz := 85) rfl kd_11 rfl ⟨by decide, by decide⟩ rfl wf_12_583 rfl rfl dX12_makeChain_388 ?_
    replace h := b_wp_l h
    refine v_iconst ⟨by decide, by decide⟩ dX12_makeChain_391 ?_
    refine v_zreturn rfl (Or.inr rfl) dX12_makeChain_392 ⟨by decide, by decide⟩ ?_
    exact ⟨_, rfl, h⟩
  · replace h := b_wp_t c57 h
    refine v_iconst ⟨by decide, by decide⟩ dX12_makeChain_365 ?_
    refine v_zreturn rfl (Or.inl rfl) dX12_makeChain_366 ⟨by decide, by decide⟩ ?_
    exact ⟨_, rfl, h⟩
noncomputable def F_X12_makeChain_b209 (v5 : Int) (v6 : Int) (M : bM) : Option (Int × bM) :=
  if v6 = 0 then (b_bind (b_loop (fun t => F_X12_makeChain_s258 t.1 t.2.1 t.2.2.1 t.2.2.2) (v5, (-1), 0, M)) (fun t => F_X12_makeChain_b359 (t.1) (t.2.1) (t.2.2))) else (b_bind (F_X12_fewest v5 M) (fun t => b_two t (fun x62 M63 => b_bind (F_X12_rootFor x62 M63) (fun x64 => b_let (b_up M63 11 87 x64) (fun M65 => b_bind (F_X12_takeLinks (M65 11 87) x62 M65) (fun M66 => b_bind (F_X12_weakestOf M66) (fun x67 => b_let (b_up M66 11 85 x67) (fun M68 => some (1, M68)))))))))
theorem t_X12_makeChain_b209 {l : Launch} {E : bE} {Q : (Int × bM) → Prop} {v5 : Int} {v6 : Int} {M : bM} (h : b_wp (F_X12_makeChain_b209 v5 v6 M) (Q)) : V l E xX12_makeChain (0, 0) 209 [(0, bR 11), (5, bI v5), (6, bI v6)] [] M (b_pI Q) := by
  unfold F_X12_makeChain_b209 at h
  refine v_iload (i := 6) 2 rfl dX12_makeChain_209 ?_
  refine v_if_eq (tgt := 252) dX12_makeChain_211 (by decide) (fun c38 => ?_) (fun c38 => ?_)
  · replace h := b_wp_t c38 h
    refine v_iconst ⟨by decide, by decide⟩ dX12_makeChain_252 ?_
    refine v_istore (i := 7) (ls' := [(7, bI _), (0, bR _), (5, bI _), (6, bI _)]) (by decide) dX12_makeChain_253 rfl ?_
    refine v_iconst ⟨by decide, by decide⟩ dX12_makeChain_255 ?_
    refine v_istore (i := 8) (ls' := [(8, bI _), (7, bI _), (0, bR _), (5, bI _), (6, bI _)]) (by decide) dX12_makeChain_256 rfl ?_
    refine v_sub (ls2 := [(0, bR _), (5, bI _), (7, bI _), (8, bI _)]) [2, 3, 1, 0] rfl ?_
    refine l_X12_makeChain_258 (b_wp_m (fun t h => ?_) (b_wp_b h))
    show V l E xX12_makeChain (0, 0) 359 [(0, bR 11), (5, bI _), (7, bI _)] [] _ (b_pI Q)
    exact t_X12_makeChain_b359 h
  · replace h := b_wp_f c38 h
    refine v_aload_n (f := 0) 0 rfl dX12_makeChain_214 ?_
    refine v_iload (i := 5) 1 rfl dX12_makeChain_215 ?_
    refine v_cVI (nA := 1) (As := [bI _]) (ix := 589) (cf_X12_fewest (b_wp_b h)) rfl kd_11 rfl rfl wc_X12_fewest wm_12_589 wi_X12_fewest ws_X12_fewest wn_12 ⟨by decide, by decide, by decide⟩ rfl ⟨by decide, by decide⟩ ⟨by decide, by decide⟩ (Nat.le_of_ble_eq_true rfl) dX12_makeChain_217 (fun x62 M63 h => ?_)
    replace h := b_wp_two h
    refine v_istore (i := 7) (ls' := [(7, bI _), (0, bR _), (5, bI _), (6, bI _)]) (by decide) dX12_makeChain_220 rfl ?_
    refine v_aload_n (f := 0) 1 rfl dX12_makeChain_222 ?_
    refine v_aload_n (f := 0) 1 rfl dX12_makeChain_223 ?_
    refine v_iload (i := 7) 0 rfl dX12_makeChain_224 ?_
    refine v_cVIp (nA := 1) (As := [bI _]) (ix := 577) (cf_X12_rootFor (b_wp_b h)) rfl kd_11 rfl rfl wc_X12_rootFor wm_12_577 wi_X12_rootFor ws_X12_rootFor wn_12 ⟨by decide, by decide, by decide⟩ rfl ⟨by decide, by decide⟩ ⟨by decide, by decide⟩ (Nat.le_of_ble_eq_true rfl) dX12_makeChain_226 (fun x64 h => ?_)
    refine v_putI (kf := 87) (kz := 87) rfl kd_11 rfl ⟨by decide, by decide⟩ rfl wf_12_592 rfl rfl dX12_makeChain_229 ?_
    replace h := b_wp_l h
    refine v_aload_n (f := 0) 1 rfl dX12_makeChain_232 ?_
    refine v_aload_n (f := 0) 1 rfl dX12_makeChain_233 ?_
    refine v_getI (kf := 87) (kz := 87) rfl kd_11 rfl ⟨by decide, by decide⟩ rfl wf_12_592 dX12_makeChain_234 ?_
    refine v_iload (i := 7) 0 rfl dX12_makeChain_237 ?_
    refine v_cVV (nA := 2) (As := [bI _, bI _]) (ix := 595) (cf_X12_takeLinks (b_wp_b h)) rfl kd_11 rfl rfl wc_X12_takeLinks wm_12_595 wi_X12_takeLinks ws_X12_takeLinks wn_12 ⟨by decide, by decide, by decide⟩ rfl ⟨by decide, by decide⟩ ⟨by decide, by decide⟩ (Nat.le_of_ble_eq_true rfl) dX12_makeChain_239 (fun M66 h => ?_)
    refine v_aload_n (f := 0) 1 rfl dX12_makeChain_242 ?_
    refine v_aload_n (f := 0) 1 rfl dX12_makeChain_243 ?_
    refine v_cVIp (nA := 0) (As := []) (ix := 598) (cf_X12_weakestOf (b_wp_b h)) rfl kd_11 rfl rfl wc_X12_weakestOf wm_12_598 wi_X12_weakestOf ws_X12_weakestOf wn_12 ⟨by decide, by decide, by decide⟩ rfl ⟨by decide, by decide⟩ ⟨by decide, by decide⟩ (Nat.le_of_ble_eq_true rfl) dX12_makeChain_244 (fun x67 h => ?_)
    refine v_putI (kf := 85) (kz := 85) rfl kd_11 rfl ⟨by decide, by decide⟩ rfl wf_12_583 rfl rfl dX12_makeChain_247 ?_
    replace h := b_wp_l h
    refine v_iconst ⟨by decide, by decide⟩ dX12_makeChain_250 ?_
    refine v_zreturn rfl (Or.inr rfl) dX12_makeChain_251 ⟨by decide, by decide⟩ ?_
    exact ⟨_, rfl, h⟩
noncomputable def F_X12_makeChain_b190 (v4 : Int) (v5 : Int) (v6 : Int) (M : bM) : Option (Int × bM) :=
  if v6 = 0 then (if v4 = (-1) then (F_X12_makeChain_b209 v5 v6 M) else (b_let (b_up M 11 87 v4) (fun M70 => some (1, M70)))) else (F_X12_makeChain_b209 v5 v6 M)
theorem t_X12_makeChain_b190 {l : Launch} {E : bE} {Q : (Int × bM) → Prop} {v4 : Int} {v5 : Int} {v6 : Int} {M : bM} (h : b_wp (F_X12_makeChain_b190 v4 v5 v6 M) (Q)) : V l E xX12_makeChain (0, 0) 190 [(0, bR 11), (4, bI v4), (5, bI v5), (6, bI v6)] [] M (b_pI Q) := by
  unfold F_X12_makeChain_b190 at h
  refine v_iload (i := 6) 3 rfl dX12_makeChain_190 ?_
  refine v_if_ne (tgt := 209) dX12_makeChain_192 (by decide) (fun c37 => ?_) (fun c37 => ?_)
  · replace h := b_wp_f c37 h
    refine v_sub (ls2 := [(0, bR _), (5, bI _), (6, bI _)]) [0, 2, 3] rfl ?_
    exact t_X12_makeChain_b209 h
  · replace h := b_wp_t c37 h
    refine v_iload (i := 4) 1 rfl dX12_makeChain_195 ?_
    refine v_iconst ⟨by decide, by decide⟩ dX12_makeChain_197 ?_
    refine v_icmp_eq (tgt := 209) dX12_makeChain_198 (by decide) (fun c69 => ?_) (fun c69 => ?_)
    · replace h := b_wp_t c69 h
      refine v_sub (ls2 := [(0, bR _), (5, bI _), (6, bI _)]) [0, 2, 3] rfl ?_
      exact t_X12_makeChain_b209 h
    · replace h := b_wp_f c69 h
      refine v_aload_n (f := 0) 0 rfl dX12_makeChain_201 ?_
      refine v_iload (i := 4) 1 rfl dX12_makeChain_202 ?_
      refine v_putI (kf := 87) (kz := 87) rfl kd_11 rfl ⟨by decide, by decide⟩ rfl wf_12_592 rfl rfl dX12_makeChain_204 ?_
      replace h := b_wp_l h
      refine v_iconst ⟨by decide, by decide⟩ dX12_makeChain_207 ?_
      refine v_zreturn rfl (Or.inr rfl) dX12_makeChain_208 ⟨by decide, by decide⟩ ?_
      exact ⟨_, rfl, h⟩
noncomputable def F_X12_makeChain_b128 (v4 : Int) (u0 : Int) (M : bM) : Option (Int × bM) :=
  b_bind (b_loop (fun t => F_X12_makeChain_s136 v4 t.1 t.2.1 t.2.2.1 t.2.2.2) (u0, 0, 0, M)) (fun t => F_X12_makeChain_b190 v4 (t.1) (t.2.1) (t.2.2))
theorem t_X12_makeChain_b128 {l : Launch} {E : bE} {Q : (Int × bM) → Prop} {v4 : Int} {u0 : Int} {M : bM} (h : b_wp (F_X12_makeChain_b128 v4 u0 M) (Q)) : V l E xX12_makeChain (0, 0) 128 [(0, bR 11), (4, bI v4)] [bI u0] M (b_pI Q) := by
  unfold F_X12_makeChain_b128 at h
  refine v_istore (i := 5) (ls' := [(5, bI _), (0, bR _), (4, bI _)]) (by decide) dX12_makeChain_128 rfl ?_
  refine v_iconst ⟨by decide, by decide⟩ dX12_makeChain_130 ?_
  refine v_istore (i := 6) (ls' := [(6, bI _), (5, bI _), (0, bR _), (4, bI _)]) (by decide) dX12_makeChain_131 rfl ?_
  refine v_iconst ⟨by decide, by decide⟩ dX12_makeChain_133 ?_
  refine v_istore (i := 7) (ls' := [(7, bI _), (6, bI _), (5, bI _), (0, bR _), (4, bI _)]) (by decide) dX12_makeChain_134 rfl ?_
  refine v_sub (ls2 := [(0, bR _), (4, bI _), (5, bI _), (6, bI _), (7, bI _)]) [3, 4, 2, 1, 0] rfl ?_
  refine l_X12_makeChain_136 (b_wp_m (fun t h => ?_) (b_wp_b h))
  show V l E xX12_makeChain (0, 0) 190 [(0, bR 11), (4, bI _), (5, bI _), (6, bI _)] [] _ (b_pI Q)
  exact t_X12_makeChain_b190 h
noncomputable def F_X12_makeChain_b111 (v4 : Int) (M : bM) : Option (Int × bM) :=
  b_bind (F_X12_makeWays M) (fun M24 => if v4 = (-1) then (F_X12_makeChain_b128 v4 (-1) M24) else (F_X12_makeChain_b128 v4 999 M24))
theorem t_X12_makeChain_b111 {l : Launch} {E : bE} {Q : (Int × bM) → Prop} {v4 : Int} {M : bM} (h : b_wp (F_X12_makeChain_b111 v4 M) (Q)) : V l E xX12_makeChain (0, 0) 111 [(0, bR 11), (4, bI v4)] [] M (b_pI Q) := by
  unfold F_X12_makeChain_b111 at h
  refine v_aload_n (f := 0) 0 rfl dX12_makeChain_111 ?_
  refine v_cVV (nA := 0) (As := []) (ix := 586) (cf_X12_makeWays (b_wp_b h)) rfl kd_11 rfl rfl wc_X12_makeWays wm_12_586 wi_X12_makeWays ws_X12_makeWays wn_12 ⟨by decide, by decide, by decide⟩ rfl ⟨by decide, by decide⟩ ⟨by decide, by decide⟩ (Nat.le_of_ble_eq_true rfl) dX12_makeChain_112 (fun M24 h => ?_)
  refine v_iload (i := 4) 1 rfl dX12_makeChain_115 ?_
  refine v_iconst ⟨by decide, by decide⟩ dX12_makeChain_117 ?_
  refine v_icmp_ne (tgt := 125) dX12_makeChain_118 (by decide) (fun c25 => ?_) (fun c25 => ?_)
  · replace h := b_wp_f c25 h
    refine v_sipush ⟨by decide, by decide⟩ (by decide) dX12_makeChain_125 ?_
    exact t_X12_makeChain_b128 h
  · replace h := b_wp_t c25 h
    refine v_iconst ⟨by decide, by decide⟩ dX12_makeChain_121 ?_
    refine v_goto (tgt := 128) dX12_makeChain_122 (by decide) ?_
    exact t_X12_makeChain_b128 h
noncomputable def F_X12_makeChain_b22 (v1 : Int) (v2 : Int) (v3 : Int) (u1 : Int) (M : bM) : Option (Int × bM) :=
  b_g (u1 = 0 ∨ u1 = 1) (b_let (b_up M 11 80 u1) (fun M5 => b_let (b_up M5 11 81 v3) (fun M6 => b_g (0 ≤ v1 ∧ v1 < 60) (b_let (b_up M6 11 82 (M6 174 v1)) (fun M8 => b_let (b_up M8 11 83 v2) (fun M9 => b_let (b_up M9 11 86 0) (fun M10 => b_let (b_up M10 11 84 0) (fun M11 => b_let (b_up M11 11 85 999) (fun M12 => b_g (b_i32 ((M12 11 20) - 1)) (b_let (((M12 11 20) - 1)) (fun y14 => b_bind (b_loop (fun t => F_X12_makeChain_s73 t.1 t.2 M12) ((-1), y14)) (fun t => F_X12_makeChain_b111 t M12))))))))))))
theorem t_X12_makeChain_b22 {l : Launch} {E : bE} {Q : (Int × bM) → Prop} {v1 : Int} {v2 : Int} {v3 : Int} {u1 : Int} {M : bM} (h : b_wp (F_X12_makeChain_b22 v1 v2 v3 u1 M) (Q)) : V l E xX12_makeChain (0, 0) 22 [(0, bR 11), (1, bI v1), (2, bI v2), (3, bI v3)] [bI u1, bR 11] M (b_pI Q) := by
  unfold F_X12_makeChain_b22 at h
  obtain ⟨g4, h⟩ := b_wp_g h
  refine v_putZ (kf := 80) (kz := 80) rfl kd_11 rfl ⟨by decide, by decide⟩ rfl g4 wf_12_543 rfl rfl dX12_makeChain_22 ?_
  replace h := b_wp_l h
  refine v_aload_n (f := 0) 0 rfl dX12_makeChain_25 ?_
  refine v_iload_n (f := 3) 3 rfl dX12_makeChain_26 ?_
  refine v_putI (kf := 81) (kz := 81) rfl kd_11 rfl ⟨by decide, by decide⟩ rfl wf_12_547 rfl rfl dX12_makeChain_27 ?_
  replace h := b_wp_l h
  obtain ⟨g7, h⟩ := b_wp_g h
  refine v_aload_n (f := 0) 0 rfl dX12_makeChain_30 ?_
  refine v_aload_n (f := 0) 0 rfl dX12_makeChain_31 ?_
  refine v_getR (kf := 26) (kz := 26) rfl kd_11 rfl ⟨by decide, by decide⟩ rfl wf_12_51 dX12_makeChain_32 ?_
  refine v_iload_n (f := 1) 1 rfl dX12_makeChain_35 ?_
  refine v_laload kd_174 g7 (by decide) dX12_makeChain_36 ?_
  refine v_putJ (kf := 82) (kz := 82) rfl kd_11 rfl ⟨by decide, by decide⟩ rfl wf_12_540 rfl rfl dX12_makeChain_37 ?_
  replace h := b_wp_l h
  refine v_aload_n (f := 0) 0 rfl dX12_makeChain_40 ?_
  refine v_iload_n (f := 2) 2 rfl dX12_makeChain_41 ?_
  refine v_putI (kf := 83) (kz := 83) rfl kd_11 rfl ⟨by decide, by decide⟩ rfl wf_12_565 rfl rfl dX12_makeChain_42 ?_
  replace h := b_wp_l h
  refine v_aload_n (f := 0) 0 rfl dX12_makeChain_45 ?_
  refine v_iconst ⟨by decide, by decide⟩ dX12_makeChain_46 ?_
  refine v_putI (kf := 86) (kz := 86) rfl kd_11 rfl ⟨by decide, by decide⟩ rfl wf_12_571 rfl rfl dX12_makeChain_47 ?_
  replace h := b_wp_l h
  refine v_aload_n (f := 0) 0 rfl dX12_makeChain_50 ?_
  refine v_iconst ⟨by decide, by decide⟩ dX12_makeChain_51 ?_
  refine v_putI (kf := 84) (kz := 84) rfl kd_11 rfl ⟨by decide, by decide⟩ rfl wf_12_580 rfl rfl dX12_makeChain_52 ?_
  replace h := b_wp_l h
  refine v_aload_n (f := 0) 0 rfl dX12_makeChain_55 ?_
  refine v_sipush ⟨by decide, by decide⟩ (by decide) dX12_makeChain_56 ?_
  refine v_putI (kf := 85) (kz := 85) rfl kd_11 rfl ⟨by decide, by decide⟩ rfl wf_12_583 rfl rfl dX12_makeChain_59 ?_
  replace h := b_wp_l h
  obtain ⟨g13, h⟩ := b_wp_g h
  refine v_iconst ⟨by decide, by decide⟩ dX12_makeChain_62 ?_
  refine v_istore (i := 4) (ls' := [(4, bI _), (0, bR _), (1, bI _), (2, bI _), (3, bI _)]) (by decide) dX12_makeChain_63 rfl ?_
  refine v_aload_n (f := 0) 1 rfl dX12_makeChain_65 ?_
  refine v_getI (kf := 20) (kz := 20) rfl kd_11 rfl ⟨by decide, by decide⟩ rfl wf_12_374 dX12_makeChain_66 ?_
  refine v_iconst ⟨by decide, by decide⟩ dX12_makeChain_69 ?_
  refine v_isubN g13 dX12_makeChain_70 ?_
  replace h := b_wp_l h
  refine v_istore (i := 5) (ls' := [(5, bI _), (4, bI _), (0, bR _), (1, bI _), (2, bI _), (3, bI _)]) (by decide) dX12_makeChain_71 rfl ?_
  refine v_sub (ls2 := [(0, bR _), (4, bI _), (5, bI _)]) [2, 1, 0] rfl ?_
  refine l_X12_makeChain_73 (b_wp_m (fun t h => ?_) (b_wp_b h))
  show V l E xX12_makeChain (0, 0) 111 [(0, bR 11), (4, bI _)] [] _ (b_pI Q)
  exact t_X12_makeChain_b111 h
noncomputable def F_X12_makeChain (v1 : Int) (v2 : Int) (v3 : Int) (M : bM) : Option (Int × bM) :=
  b_bind (F_X12_makeShown v3 M) (fun M1 => b_bind (F_X12_ruleOn v3 8 M1) (fun x2 => if x2 = 1 then (F_X12_makeChain_b22 v1 v2 v3 1 M1) else (F_X12_makeChain_b22 v1 v2 v3 0 M1)))
theorem t_X12_makeChain {l : Launch} {E : bE} {Q : (Int × bM) → Prop} {v1 : Int} {v2 : Int} {v3 : Int} {M : bM} (h : b_wp (F_X12_makeChain v1 v2 v3 M) (Q)) : V l E xX12_makeChain (0, 0) 0 [(0, bR 11), (1, bI v1), (2, bI v2), (3, bI v3)] [] M (b_pI Q) := by
  unfold F_X12_makeChain at h
  refine v_aload_n (f := 0) 0 rfl dX12_makeChain_0 ?_
  refine v_iload_n (f := 3) 3 rfl dX12_makeChain_1 ?_
  refine v_cVV (nA := 1) (As := [bI _]) (ix := 534) (cf_X12_makeShown (b_wp_b h)) rfl kd_11 rfl rfl wc_X12_makeShown wm_12_534 wi_X12_makeShown ws_X12_makeShown wn_12 ⟨by decide, by decide, by decide⟩ rfl ⟨by decide, by decide⟩ ⟨by decide, by decide⟩ (Nat.le_of_ble_eq_true rfl) dX12_makeChain_2 (fun M1 h => ?_)
  refine v_aload_n (f := 0) 0 rfl dX12_makeChain_5 ?_
  refine v_aload_n (f := 0) 0 rfl dX12_makeChain_6 ?_
  refine v_iload_n (f := 3) 3 rfl dX12_makeChain_7 ?_
  refine v_bipush ⟨by decide, by decide⟩ (by decide) dX12_makeChain_8 ?_
  refine v_cVIp (nA := 2) (As := [bI _, bI _]) (ix := 493) (cf_X12_ruleOn (b_wp_b h)) rfl kd_11 rfl rfl wc_X12_ruleOn wm_12_493 wi_X12_ruleOn ws_X12_ruleOn wn_12 ⟨by decide, by decide, by decide⟩ rfl ⟨by decide, by decide⟩ ⟨by decide, by decide⟩ (Nat.le_of_ble_eq_true rfl) dX12_makeChain_10 (fun x2 h => ?_)
  refine v_iconst ⟨by decide, by decide⟩ dX12_makeChain_13 ?_
  refine v_icmp_ne (tgt := 21) dX12_makeChain_14 (by decide) (fun c3 => ?_) (fun c3 => ?_)
  · replace h := b_wp_f c3 h
    refine v_iconst ⟨by decide, by decide⟩ dX12_makeChain_21 ?_
    exact t_X12_makeChain_b22 h
  · replace h := b_wp_t c3 h
    refine v_iconst ⟨by decide, by decide⟩ dX12_makeChain_17 ?_
    refine v_goto (tgt := 22) dX12_makeChain_18 (by decide) ?_
    exact t_X12_makeChain_b22 h
theorem cf_X12_makeChain {l : Launch} {E : bE} {M : bM} {v1 : Int} {v2 : Int} {v3 : Int} {Q : (Int × bM) → Prop} (h : b_wp (F_X12_makeChain v1 v2 v3 M) Q) : b_C l E xX12_makeChain yX12_makeChain [bR 11, bI v1, bI v2, bI v3] M (b_pI Q) := b_met (by decide) ⟨rfl, rfl⟩ (Nat.le_of_ble_eq_true rfl) (fun _ _ => t_X12_makeChain h)
abbrev xX12_chain : bX := ("BurntHallModel", prog_14_method_103_code, 5, (Option.some Jvm.ClassFile.FieldType.int), b_rm 6 0 0, 0, "chain")
abbrev yX12_chain : MethodName := ⟨"BurntHallModel", "chain", "(III)I"⟩
theorem dX12_chain_0 : decode prog_14_method_103_code 0 = .ok (.aload_n 0, 1) := by decide +kernel
theorem dX12_chain_1 : decode prog_14_method_103_code 1 = .ok (.iload_n 1, 1) := by decide +kernel
theorem dX12_chain_2 : decode prog_14_method_103_code 2 = .ok (.invokevirtual 385, 3) := by decide +kernel
theorem dX12_chain_5 : decode prog_14_method_103_code 5 = .ok (.ifCond .eq 18, 3) := by decide +kernel
theorem dX12_chain_8 : decode prog_14_method_103_code 8 = .ok (.aload_n 0, 1) := by decide +kernel
theorem dX12_chain_9 : decode prog_14_method_103_code 9 = .ok (.iload_n 2, 1) := by decide +kernel
theorem dX12_chain_10 : decode prog_14_method_103_code 10 = .ok (.invokevirtual 356, 3) := by decide +kernel
theorem dX12_chain_13 : decode prog_14_method_103_code 13 = .ok (.ifCond .eq 10, 3) := by decide +kernel
theorem dX12_chain_16 : decode prog_14_method_103_code 16 = .ok (.iload_n 3, 1) := by decide +kernel
theorem dX12_chain_17 : decode prog_14_method_103_code 17 = .ok (.invokestatic 347, 3) := by decide +kernel
theorem dX12_chain_20 : decode prog_14_method_103_code 20 = .ok (.ifCond .ne 6, 3) := by decide +kernel
theorem dX12_chain_23 : decode prog_14_method_103_code 23 = .ok (.bipush (-2), 2) := by decide +kernel
theorem dX12_chain_25 : decode prog_14_method_103_code 25 = .ok (.ireturn, 1) := by decide +kernel
theorem dX12_chain_26 : decode prog_14_method_103_code 26 = .ok (.aload_n 0, 1) := by decide +kernel
theorem dX12_chain_27 : decode prog_14_method_103_code 27 = .ok (.iload_n 1, 1) := by decide +kernel
theorem dX12_chain_28 : decode prog_14_method_103_code 28 = .ok (.iload_n 2, 1) := by decide +kernel
theorem dX12_chain_29 : decode prog_14_method_103_code 29 = .ok (.iload_n 3, 1) := by decide +kernel
theorem dX12_chain_30 : decode prog_14_method_103_code 30 = .ok (.invokevirtual 601, 3) := by decide +kernel
theorem dX12_chain_33 : decode prog_14_method_103_code 33 = .ok (.ifCond .ne 5, 3) := by decide +kernel
theorem dX12_chain_36 : decode prog_14_method_103_code 36 = .ok (.iconst (-1), 1) := by decide +kernel
theorem dX12_chain_37 : decode prog_14_method_103_code 37 = .ok (.ireturn, 1) := by decide +kernel
theorem dX12_chain_38 : decode prog_14_method_103_code 38 = .ok (.aload_n 0, 1) := by decide +kernel
theorem dX12_chain_39 : decode prog_14_method_103_code 39 = .ok (.iconst 1, 1) := by decide +kernel
theorem dX12_chain_40 : decode prog_14_method_103_code 40 = .ok (.putfield 604, 3) := by decide +kernel
theorem dX12_chain_43 : decode prog_14_method_103_code 43 = .ok (.aload_n 0, 1) := by decide +kernel
theorem dX12_chain_44 : decode prog_14_method_103_code 44 = .ok (.aload_n 0, 1) := by decide +kernel
theorem dX12_chain_45 : decode prog_14_method_103_code 45 = .ok (.getfield 580, 3) := by decide +kernel
theorem dX12_chain_48 : decode prog_14_method_103_code 48 = .ok (.putfield 607, 3) := by decide +kernel
theorem dX12_chain_51 : decode prog_14_method_103_code 51 = .ok (.aload_n 0, 1) := by decide +kernel
theorem dX12_chain_52 : decode prog_14_method_103_code 52 = .ok (.aload_n 0, 1) := by decide +kernel
theorem dX12_chain_53 : decode prog_14_method_103_code 53 = .ok (.getfield 583, 3) := by decide +kernel
theorem dX12_chain_56 : decode prog_14_method_103_code 56 = .ok (.putfield 610, 3) := by decide +kernel
theorem dX12_chain_59 : decode prog_14_method_103_code 59 = .ok (.aload_n 0, 1) := by decide +kernel
theorem dX12_chain_60 : decode prog_14_method_103_code 60 = .ok (.aload_n 0, 1) := by decide +kernel
theorem dX12_chain_61 : decode prog_14_method_103_code 61 = .ok (.getfield 571, 3) := by decide +kernel
theorem dX12_chain_64 : decode prog_14_method_103_code 64 = .ok (.putfield 613, 3) := by decide +kernel
theorem dX12_chain_67 : decode prog_14_method_103_code 67 = .ok (.aload_n 0, 1) := by decide +kernel
theorem dX12_chain_68 : decode prog_14_method_103_code 68 = .ok (.aload_n 0, 1) := by decide +kernel
theorem dX12_chain_69 : decode prog_14_method_103_code 69 = .ok (.getfield 592, 3) := by decide +kernel
theorem dX12_chain_72 : decode prog_14_method_103_code 72 = .ok (.putfield 616, 3) := by decide +kernel
theorem dX12_chain_75 : decode prog_14_method_103_code 75 = .ok (.iconst 0, 1) := by decide +kernel
theorem dX12_chain_76 : decode prog_14_method_103_code 76 = .ok (.istore 4, 2) := by decide +kernel
theorem dX12_chain_78 : decode prog_14_method_103_code 78 = .ok (.iload 4, 2) := by decide +kernel
theorem dX12_chain_80 : decode prog_14_method_103_code 80 = .ok (.bipush 8, 2) := by decide +kernel
theorem dX12_chain_82 : decode prog_14_method_103_code 82 = .ok (.if_icmp .ge 23, 3) := by decide +kernel
theorem dX12_chain_85 : decode prog_14_method_103_code 85 = .ok (.aload_n 0, 1) := by decide +kernel
theorem dX12_chain_86 : decode prog_14_method_103_code 86 = .ok (.getfield 206, 3) := by decide +kernel
theorem dX12_chain_89 : decode prog_14_method_103_code 89 = .ok (.iload 4, 2) := by decide +kernel
theorem dX12_chain_91 : decode prog_14_method_103_code 91 = .ok (.aload_n 0, 1) := by decide +kernel
theorem dX12_chain_92 : decode prog_14_method_103_code 92 = .ok (.getfield 191, 3) := by decide +kernel
theorem dX12_chain_95 : decode prog_14_method_103_code 95 = .ok (.iload 4, 2) := by decide +kernel
theorem dX12_chain_97 : decode prog_14_method_103_code 97 = .ok (.iaload, 1) := by decide +kernel
theorem dX12_chain_98 : decode prog_14_method_103_code 98 = .ok (.iastore, 1) := by decide +kernel
theorem dX12_chain_99 : decode prog_14_method_103_code 99 = .ok (.iinc 4 1, 3) := by decide +kernel
theorem dX12_chain_102 : decode prog_14_method_103_code 102 = .ok (.goto (-24), 3) := by decide +kernel
theorem dX12_chain_105 : decode prog_14_method_103_code 105 = .ok (.aload_n 0, 1) := by decide +kernel
theorem dX12_chain_106 : decode prog_14_method_103_code 106 = .ok (.getfield 580, 3) := by decide +kernel
theorem dX12_chain_109 : decode prog_14_method_103_code 109 = .ok (.ireturn, 1) := by decide +kernel
abbrev A_X12_chain_78 (l : Launch) (E : bE) (Q : (Int × bM) → Prop) : (Int × bM) → Prop := (fun t : Int × bM => V l E xX12_chain (0, 0) 78 [(0, bR 11), (4, bI (t.1))] [] t.2 (b_pI Q))
abbrev X_X12_chain_78 (l : Launch) (E : bE) (Q : (Int × bM) → Prop) : (bM) → Prop := (fun t : bM => V l E xX12_chain (0, 0) 105 [(0, bR 11)] [] t (b_pI Q))
noncomputable def F_X12_chain_s78 (v4 : Int) (M : bM) : Option ((Int × bM) ⊕ (bM)) :=
  if 8 ≤ v4 then (some (.inr (M))) else (b_g (0 ≤ v4 ∧ v4 < 8) (b_let (b_up M 224 v4 (M 219 v4)) (fun M17 => b_g (b_i32 (v4 + 1)) (some (.inl ((v4 + 1), M17))))))
theorem t_X12_chain_s78 {l : Launch} {E : bE} {Q : (Int × bM) → Prop} {v4 : Int} {M : bM} (h : b_wp (F_X12_chain_s78 v4 M) (Sum.elim (A_X12_chain_78 l E Q ) (X_X12_chain_78 l E Q ))) : V l E xX12_chain (0, 0) 78 [(0, bR 11), (4, bI v4)] [] M (b_pI Q) := by
  unfold F_X12_chain_s78 at h
  refine v_iload (i := 4) 1 rfl dX12_chain_78 ?_
  refine v_bipush ⟨by decide, by decide⟩ (by decide) dX12_chain_80 ?_
  refine v_icmp_ge (tgt := 105) dX12_chain_82 (by decide) (fun c15 => ?_) (fun c15 => ?_)
  · replace h := b_wp_t c15 h
    refine v_sub (ls2 := [(0, bR _)]) [0] rfl ?_
    exact h
  · replace h := b_wp_f c15 h
    obtain ⟨g16, h⟩ := b_wp_g h
    refine v_aload_n (f := 0) 0 rfl dX12_chain_85 ?_
    refine v_getR (kf := 98) (kz := 98) rfl kd_11 rfl ⟨by decide, by decide⟩ rfl wf_12_206 dX12_chain_86 ?_
    refine v_iload (i := 4) 1 rfl dX12_chain_89 ?_
    refine v_aload_n (f := 0) 0 rfl dX12_chain_91 ?_
    refine v_getR (kf := 88) (kz := 88) rfl kd_11 rfl ⟨by decide, by decide⟩ rfl wf_12_191 dX12_chain_92 ?_
    refine v_iload (i := 4) 1 rfl dX12_chain_95 ?_
    refine v_iaload kd_219 g16 (by decide) dX12_chain_97 ?_
    refine v_iastore kd_224 g16 (by decide) dX12_chain_98 ?_
    replace h := b_wp_l h
    obtain ⟨g18, h⟩ := b_wp_g h
    refine v_iincN (ls' := [(4, bI _), (0, bR _)]) 1 rfl (by decide) g18 dX12_chain_99 rfl ?_
    refine v_goto (tgt := 78) dX12_chain_102 (by decide) ?_
    refine v_sub (ls2 := [(0, bR _), (4, bI _)]) [1, 0] rfl ?_
    exact h
theorem l_X12_chain_78 {l : Launch} {E : bE} {Q : (Int × bM) → Prop} {s : Int × bM} (h : b_wp (b_loop (fun t => F_X12_chain_s78 t.1 t.2) s) (X_X12_chain_78 l E Q )) : A_X12_chain_78 l E Q  s := b_loop_wp (fun t h => t_X12_chain_s78 h) s h
noncomputable def F_X12_chain_b105 (M : bM) : Option (Int × bM) :=
  some ((M 11 84), M)
theorem t_X12_chain_b105 {l : Launch} {E : bE} {Q : (Int × bM) → Prop} {M : bM} (h : b_wp (F_X12_chain_b105 M) (Q)) : V l E xX12_chain (0, 0) 105 [(0, bR 11)] [] M (b_pI Q) := by
  unfold F_X12_chain_b105 at h
  refine v_aload_n (f := 0) 0 rfl dX12_chain_105 ?_
  refine v_getI (kf := 84) (kz := 84) rfl kd_11 rfl ⟨by decide, by decide⟩ rfl wf_12_580 dX12_chain_106 ?_
  refine v_ireturn rfl dX12_chain_109 ⟨by decide, by decide⟩ ?_
  exact ⟨_, rfl, h⟩
noncomputable def F_X12_chain (v1 : Int) (v2 : Int) (v3 : Int) (M : bM) : Option (Int × bM) :=
  b_bind (F_X12_isLot v1 M) (fun x1 => if x1 = 0 then (some ((-2), M)) else (b_bind (F_X12_isPerson v2 M) (fun x3 => if x3 = 0 then (some ((-2), M)) else (b_bind (F_X12_isDay v3 M) (fun x5 => if x5 = 0 then (some ((-2), M)) else (b_bind (F_X12_makeChain v1 v2 v3 M) (fun t => b_two t (fun x7 M8 => if x7 = 0 then (some ((-1), M8)) else (b_let (b_up M8 11 97 1) (fun M10 => b_let (b_up M10 11 93 (M10 11 84)) (fun M11 => b_let (b_up M11 11 94 (M11 11 85)) (fun M12 => b_let (b_up M12 11 95 (M12 11 86)) (fun M13 => b_let (b_up M13 11 96 (M13 11 87)) (fun M14 => b_bind (b_loop (fun t => F_X12_chain_s78 t.1 t.2) (0, M14)) (fun t => F_X12_chain_b105 t)))))))))))))))
theorem t_X12_chain {l : Launch} {E : bE} {Q : (Int × bM) → Prop} {v1 : Int} {v2 : Int} {v3 : Int} {M : bM} (h : b_wp (F_X12_chain v1 v2 v3 M) (Q)) : V l E xX12_chain (0, 0) 0 [(0, bR 11), (1, bI v1), (2, bI v2), (3, bI v3)] [] M (b_pI Q) := by
  unfold F_X12_chain at h
  refine v_aload_n (f := 0) 0 rfl dX12_chain_0 ?_
  refine v_iload_n (f := 1) 1 rfl dX12_chain_1 ?_
  refine v_cVIp (nA := 1) (As := [bI _]) (ix := 385) (cf_X12_isLot (b_wp_b h)) rfl kd_11 rfl rfl wc_X12_isLot wm_12_385 wi_X12_isLot ws_X12_isLot wn_12 ⟨by decide, by decide, by decide⟩ rfl ⟨by decide, by decide⟩ ⟨by decide, by decide⟩ (Nat.le_of_ble_eq_true rfl) dX12_chain_2 (fun x1 h => ?_)
  refine v_if_eq (tgt := 23) dX12_chain_5 (by decide) (fun c2 => ?_) (fun c2 => ?_)
  · replace h := b_wp_t c2 h
    refine v_bipush ⟨by decide, by decide⟩ (by decide) dX12_chain_23 ?_
    refine v_ireturn rfl dX12_chain_25 ⟨by decide, by decide⟩ ?_
    exact ⟨_, rfl, h⟩
  · replace h := b_wp_f c2 h
    refine v_aload_n (f := 0) 0 rfl dX12_chain_8 ?_
    refine v_iload_n (f := 2) 2 rfl dX12_chain_9 ?_
    refine v_cVIp (nA := 1) (As := [bI _]) (ix := 356) (cf_X12_isPerson (b_wp_b h)) rfl kd_11 rfl rfl wc_X12_isPerson wm_12_356 wi_X12_isPerson ws_X12_isPerson wn_12 ⟨by decide, by decide, by decide⟩ rfl ⟨by decide, by decide⟩ ⟨by decide, by decide⟩ (Nat.le_of_ble_eq_true rfl) dX12_chain_10 (fun x3 h => ?_)
    refine v_if_eq (tgt := 23) dX12_chain_13 (by decide) (fun c4 => ?_) (fun c4 => ?_)
    · replace h := b_wp_t c4 h
      refine v_bipush ⟨by decide, by decide⟩ (by decide) dX12_chain_23 ?_
      refine v_ireturn rfl dX12_chain_25 ⟨by decide, by decide⟩ ?_
      exact ⟨_, rfl, h⟩
    · replace h := b_wp_f c4 h
      refine v_iload_n (f := 3) 3 rfl dX12_chain_16 ?_
      refine v_cSIp (nA := 1) (As := [bI _]) (ix := 347) (cf_X12_isDay (b_wp_b h)) rfl wc_X12_isDay wm_12_347 wi_X12_isDay wn_12 ⟨by decide, by decide, by decide⟩ rfl ⟨by decide, by decide⟩ ⟨by decide, by decide⟩ (Nat.le_of_ble_eq_true rfl) dX12_chain_17 (fun x5 h => ?_)
      refine v_if_ne (tgt := 26) dX12_chain_20 (by decide) (fun c6 => ?_) (fun c6 => ?_)
      · replace h := b_wp_f c6 h
        refine v_aload_n (f := 0) 0 rfl dX12_chain_26 ?_
        refine v_iload_n (f := 1) 1 rfl dX12_chain_27 ?_
        refine v_iload_n (f := 2) 2 rfl dX12_chain_28 ?_
        refine v_iload_n (f := 3) 3 rfl dX12_chain_29 ?_
        refine v_cVI (nA := 3) (As := [bI _, bI _, bI _]) (ix := 601) (cf_X12_makeChain (b_wp_b h)) rfl kd_11 rfl rfl wc_X12_makeChain wm_12_601 wi_X12_makeChain ws_X12_makeChain wn_12 ⟨by decide, by decide, by decide⟩ rfl ⟨by decide, by decide⟩ ⟨by decide, by decide⟩ (Nat.le_of_ble_eq_true rfl) dX12_chain_30 (fun x7 M8 h => ?_)
        replace h := b_wp_two h
        refine v_if_ne (tgt := 38) dX12_chain_33 (by decide) (fun c9 => ?_) (fun c9 => ?_)
        · replace h := b_wp_f c9 h
          refine v_aload_n (f := 0) 0 rfl dX12_chain_38 ?_
          refine v_iconst ⟨by decide, by decide⟩ dX12_chain_39 ?_
          refine v_putZ (kf := 97) (kz := 97) rfl kd_11 rfl ⟨by decide, by decide⟩ rfl (Or.inr rfl) wf_12_604 rfl rfl dX12_chain_40 ?_
          replace h := b_wp_l h
          refine v_aload_n (f := 0) 0 rfl dX12_chain_43 ?_
          refine v_aload_n (f := 0) 0 rfl dX12_chain_44 ?_
          refine v_getI (kf := 84) (kz := 84) rfl kd_11 rfl ⟨by decide, by decide⟩ rfl wf_12_580 dX12_chain_45 ?_
          refine v_putI (kf := 93) (kz := 93) rfl kd_11 rfl ⟨by decide, by decide⟩ rfl wf_12_607 rfl rfl dX12_chain_48 ?_
          replace h := b_wp_l h
          refine v_aload_n (f := 0) 0 rfl dX12_chain_51 ?_
          refine v_aload_n (f := 0) 0 rfl dX12_chain_52 ?_
          refine v_getI (kf := 85) (kz := 85) rfl kd_11 rfl ⟨by decide, by decide⟩ rfl wf_12_583 dX12_chain_53 ?_
          refine v_putI (kf := 94) (kz := 94) rfl kd_11 rfl ⟨by decide, by decide⟩ rfl wf_12_610 rfl rfl dX12_chain_56 ?_
          replace h := b_wp_l h
          refine v_aload_n (f := 0) 0 rfl dX12_chain_59 ?_
          refine v_aload_n (f := 0) 0 rfl dX12_chain_60 ?_
          refine v_getI (kf := 86) (kz := 86) rfl kd_11 rfl ⟨by decide, by decide⟩ rfl wf_12_571 dX12_chain_61 ?_
          refine v_putI (kf := 95) (kz := 95) rfl kd_11 rfl ⟨by decide, by decide⟩ rfl wf_12_613 rfl rfl dX12_chain_64 ?_
          replace h := b_wp_l h
          refine v_aload_n (f := 0) 0 rfl dX12_chain_67 ?_
          refine v_aload_n (f := 0) 0 rfl dX12_chain_68 ?_
          refine v_getI (kf := 87) (kz := 87) rfl kd_11 rfl ⟨by decide, by decide⟩ rfl wf_12_592 dX12_chain_69 ?_
          refine v_putI (kf := 96) (kz := 96) rfl kd_11 rfl ⟨by decide, by decide⟩ rfl wf_12_616 rfl rfl dX12_chain_72 ?_
          replace h := b_wp_l h
          refine v_iconst ⟨by decide, by decide⟩ dX12_chain_75 ?_
          refine v_istore (i := 4) (ls' := [(4, bI _), (0, bR _), (1, bI _), (2, bI _), (3, bI _)]) (by decide) dX12_chain_76 rfl ?_
          refine v_sub (ls2 := [(0, bR _), (4, bI _)]) [1, 0] rfl ?_
          refine l_X12_chain_78 (b_wp_m (fun t h => ?_) (b_wp_b h))
          show V l E xX12_chain (0, 0) 105 [(0, bR 11)] [] _ (b_pI Q)
          exact t_X12_chain_b105 h
        · replace h := b_wp_t c9 h
          refine v_iconst ⟨by decide, by decide⟩ dX12_chain_36 ?_
          refine v_ireturn rfl dX12_chain_37 ⟨by decide, by decide⟩ ?_
          exact ⟨_, rfl, h⟩
      · replace h := b_wp_t c6 h
        refine v_bipush ⟨by decide, by decide⟩ (by decide) dX12_chain_23 ?_
        refine v_ireturn rfl dX12_chain_25 ⟨by decide, by decide⟩ ?_
        exact ⟨_, rfl, h⟩
theorem cf_X12_chain {l : Launch} {E : bE} {M : bM} {v1 : Int} {v2 : Int} {v3 : Int} {Q : (Int × bM) → Prop} (h : b_wp (F_X12_chain v1 v2 v3 M) Q) : b_C l E xX12_chain yX12_chain [bR 11, bI v1, bI v2, bI v3] M (b_pI Q) := b_met (by decide) ⟨rfl, rfl⟩ (Nat.le_of_ble_eq_true rfl) (fun _ _ => t_X12_chain h)
abbrev xX12_linked : bX := ("BurntHallModel", prog_14_method_104_code, 2, (Option.some Jvm.ClassFile.FieldType.int), b_rm 2 0 0, 0, "linked")
abbrev yX12_linked : MethodName := ⟨"BurntHallModel", "linked", "(I)I"⟩
theorem dX12_linked_0 : decode prog_14_method_104_code 0 = .ok (.aload_n 0, 1) := by decide +kernel
theorem dX12_linked_1 : decode prog_14_method_104_code 1 = .ok (.getfield 604, 3) := by decide +kernel
theorem dX12_linked_4 : decode prog_14_method_104_code 4 = .ok (.ifCond .ne 5, 3) := by decide +kernel
theorem dX12_linked_7 : decode prog_14_method_104_code 7 = .ok (.iconst (-1), 1) := by decide +kernel
theorem dX12_linked_8 : decode prog_14_method_104_code 8 = .ok (.ireturn, 1) := by decide +kernel
theorem dX12_linked_9 : decode prog_14_method_104_code 9 = .ok (.iload_n 1, 1) := by decide +kernel
theorem dX12_linked_10 : decode prog_14_method_104_code 10 = .ok (.tableswitch 50 0 3 #[30, 35, 40, 45], 30) := by decide +kernel
theorem dX12_linked_40 : decode prog_14_method_104_code 40 = .ok (.aload_n 0, 1) := by decide +kernel
theorem dX12_linked_41 : decode prog_14_method_104_code 41 = .ok (.getfield 607, 3) := by decide +kernel
theorem dX12_linked_44 : decode prog_14_method_104_code 44 = .ok (.ireturn, 1) := by decide +kernel
theorem dX12_linked_45 : decode prog_14_method_104_code 45 = .ok (.aload_n 0, 1) := by decide +kernel
theorem dX12_linked_46 : decode prog_14_method_104_code 46 = .ok (.getfield 610, 3) := by decide +kernel
theorem dX12_linked_49 : decode prog_14_method_104_code 49 = .ok (.ireturn, 1) := by decide +kernel
theorem dX12_linked_50 : decode prog_14_method_104_code 50 = .ok (.aload_n 0, 1) := by decide +kernel
theorem dX12_linked_51 : decode prog_14_method_104_code 51 = .ok (.getfield 613, 3) := by decide +kernel
theorem dX12_linked_54 : decode prog_14_method_104_code 54 = .ok (.ireturn, 1) := by decide +kernel
theorem dX12_linked_55 : decode prog_14_method_104_code 55 = .ok (.aload_n 0, 1) := by decide +kernel
theorem dX12_linked_56 : decode prog_14_method_104_code 56 = .ok (.getfield 616, 3) := by decide +kernel
theorem dX12_linked_59 : decode prog_14_method_104_code 59 = .ok (.ireturn, 1) := by decide +kernel
theorem dX12_linked_60 : decode prog_14_method_104_code 60 = .ok (.iload_n 1, 1) := by decide +kernel
theorem dX12_linked_61 : decode prog_14_method_104_code 61 = .ok (.bipush 10, 2) := by decide +kernel
theorem dX12_linked_63 : decode prog_14_method_104_code 63 = .ok (.bipush 9, 2) := by decide +kernel
theorem dX12_linked_65 : decode prog_14_method_104_code 65 = .ok (.aload_n 0, 1) := by decide +kernel
theorem dX12_linked_66 : decode prog_14_method_104_code 66 = .ok (.getfield 613, 3) := by decide +kernel
theorem dX12_linked_69 : decode prog_14_method_104_code 69 = .ok (.iadd, 1) := by decide +kernel
theorem dX12_linked_70 : decode prog_14_method_104_code 70 = .ok (.invokestatic 279, 3) := by decide +kernel
theorem dX12_linked_73 : decode prog_14_method_104_code 73 = .ok (.ifCond .eq 15, 3) := by decide +kernel
theorem dX12_linked_76 : decode prog_14_method_104_code 76 = .ok (.aload_n 0, 1) := by decide +kernel
theorem dX12_linked_77 : decode prog_14_method_104_code 77 = .ok (.getfield 206, 3) := by decide +kernel
theorem dX12_linked_80 : decode prog_14_method_104_code 80 = .ok (.iload_n 1, 1) := by decide +kernel
theorem dX12_linked_81 : decode prog_14_method_104_code 81 = .ok (.bipush 10, 2) := by decide +kernel
theorem dX12_linked_83 : decode prog_14_method_104_code 83 = .ok (.isub, 1) := by decide +kernel
theorem dX12_linked_84 : decode prog_14_method_104_code 84 = .ok (.iaload, 1) := by decide +kernel
theorem dX12_linked_85 : decode prog_14_method_104_code 85 = .ok (.goto 4, 3) := by decide +kernel
theorem dX12_linked_88 : decode prog_14_method_104_code 88 = .ok (.iconst (-1), 1) := by decide +kernel
theorem dX12_linked_89 : decode prog_14_method_104_code 89 = .ok (.ireturn, 1) := by decide +kernel
noncomputable def F_X12_linked (v1 : Int) (M : bM) : Option (Int) :=
  if (M 11 97) = 0 then (some (-1)) else (if v1 = 0 then (some (M 11 93)) else (if v1 = 1 then (some (M 11 94)) else (if v1 = 2 then (some (M 11 95)) else (if v1 = 3 then (some (M 11 96)) else (b_g (b_i32 (9 + (M 11 95))) (b_bind (F_X12_in v1 10 (9 + (M 11 95)) M) (fun x11 => if x11 = 0 then (some (-1)) else (b_g ((b_i32 (v1 - 10)) ∧ (0 ≤ (v1 - 10) ∧ (v1 - 10) < 8)) (some (M 224 (v1 - 10)))))))))))
theorem t_X12_linked {l : Launch} {E : bE} {Q : Int → Prop} {v1 : Int} {M : bM} (h : b_wp (F_X12_linked v1 M) (Q)) : V l E xX12_linked (0, 0) 0 [(0, bR 11), (1, bI v1)] [] M (b_pIp M Q) := by
  unfold F_X12_linked at h
  refine v_aload_n (f := 0) 0 rfl dX12_linked_0 ?_
  refine v_getI (kf := 97) (kz := 97) rfl kd_11 rfl ⟨by decide, by decide⟩ rfl wf_12_604 dX12_linked_1 ?_
  refine v_if_ne (tgt := 9) dX12_linked_4 (by decide) (fun c1 => ?_) (fun c1 => ?_)
  · replace h := b_wp_f c1 h
    refine v_iload_n (f := 1) 1 rfl dX12_linked_9 ?_
    refine v_case (v := 0) (fun c2 => ?_) (fun c3 => ?_)
    · refine v_tsIn (tgt := 40) (0) c2 (by decide) (by decide) rfl dX12_linked_10 (by decide) ?_
      replace h := b_wp_t c2 h
      refine v_aload_n (f := 0) 0 rfl dX12_linked_40 ?_
      refine v_getI (kf := 93) (kz := 93) rfl kd_11 rfl ⟨by decide, by decide⟩ rfl wf_12_607 dX12_linked_41 ?_
      refine v_ireturn rfl dX12_linked_44 ⟨by decide, by decide⟩ ?_
      exact ⟨_, rfl, rfl, h⟩
    replace h := b_wp_f c3 h
    refine v_case (v := 1) (fun c4 => ?_) (fun c5 => ?_)
    · refine v_tsIn (tgt := 45) (1) c4 (by decide) (by decide) rfl dX12_linked_10 (by decide) ?_
      replace h := b_wp_t c4 h
      refine v_aload_n (f := 0) 0 rfl dX12_linked_45 ?_
      refine v_getI (kf := 94) (kz := 94) rfl kd_11 rfl ⟨by decide, by decide⟩ rfl wf_12_610 dX12_linked_46 ?_
      refine v_ireturn rfl dX12_linked_49 ⟨by decide, by decide⟩ ?_
      exact ⟨_, rfl, rfl, h⟩
    replace h := b_wp_f c5 h
    refine v_case (v := 2) (fun c6 => ?_) (fun c7 => ?_)
    · refine v_tsIn (tgt := 50) (2) c6 (by decide) (by decide) rfl dX12_linked_10 (by decide) ?_
      replace h := b_wp_t c6 h
      refine v_aload_n (f := 0) 0 rfl dX12_linked_50 ?_
      refine v_getI (kf := 95) (kz := 95) rfl kd_11 rfl ⟨by decide, by decide⟩ rfl wf_12_613 dX12_linked_51 ?_
      refine v_ireturn rfl dX12_linked_54 ⟨by decide, by decide⟩ ?_
      exact ⟨_, rfl, rfl, h⟩
    replace h := b_wp_f c7 h
    refine v_case (v := 3) (fun c8 => ?_) (fun c9 => ?_)
    · refine v_tsIn (tgt := 55) (3) c8 (by decide) (by decide) rfl dX12_linked_10 (by decide) ?_
      replace h := b_wp_t c8 h
      refine v_aload_n (f := 0) 0 rfl dX12_linked_55 ?_
      refine v_getI (kf := 96) (kz := 96) rfl kd_11 rfl ⟨by decide, by decide⟩ rfl wf_12_616 dX12_linked_56 ?_
      refine v_ireturn rfl dX12_linked_59 ⟨by decide, by decide⟩ ?_
      exact ⟨_, rfl, rfl, h⟩
    replace h := b_wp_f c9 h
    refine v_tsOut (tgt := 60) (by omega) dX12_linked_10 (by decide) ?_
    obtain ⟨g10, h⟩ := b_wp_g h
    refine v_iload_n (f := 1) 1 rfl dX12_linked_60 ?_
    refine v_bipush ⟨by decide, by decide⟩ (by decide) dX12_linked_61 ?_
    refine v_bipush ⟨by decide, by decide⟩ (by decide) dX12_linked_63 ?_
    refine v_aload_n (f := 0) 0 rfl dX12_linked_65 ?_
    refine v_getI (kf := 95) (kz := 95) rfl kd_11 rfl ⟨by decide, by decide⟩ rfl wf_12_613 dX12_linked_66 ?_
    refine v_iaddN g10 dX12_linked_69 ?_
    refine v_cSIp (nA := 3) (As := [bI _, bI _, bI _]) (ix := 279) (cf_X12_in (b_wp_b h)) rfl wc_X12_in wm_12_279 wi_X12_in wn_12 ⟨by decide, by decide, by decide⟩ rfl ⟨by decide, by decide⟩ ⟨by decide, by decide⟩ (Nat.le_of_ble_eq_true rfl) dX12_linked_70 (fun x11 h => ?_)
    refine v_if_eq (tgt := 88) dX12_linked_73 (by decide) (fun c12 => ?_) (fun c12 => ?_)
    · replace h := b_wp_t c12 h
      refine v_iconst ⟨by decide, by decide⟩ dX12_linked_88 ?_
      refine v_ireturn rfl dX12_linked_89 ⟨by decide, by decide⟩ ?_
      exact ⟨_, rfl, rfl, h⟩
    · replace h := b_wp_f c12 h
      obtain ⟨⟨g13, g14⟩, h⟩ := b_wp_g h
      refine v_aload_n (f := 0) 0 rfl dX12_linked_76 ?_
      refine v_getR (kf := 98) (kz := 98) rfl kd_11 rfl ⟨by decide, by decide⟩ rfl wf_12_206 dX12_linked_77 ?_
      refine v_iload_n (f := 1) 1 rfl dX12_linked_80 ?_
      refine v_bipush ⟨by decide, by decide⟩ (by decide) dX12_linked_81 ?_
      refine v_isubN g13 dX12_linked_83 ?_
      refine v_iaload kd_224 g14 (by decide) dX12_linked_84 ?_
      refine v_goto (tgt := 89) dX12_linked_85 (by decide) ?_
      refine v_ireturn rfl dX12_linked_89 ⟨by decide, by decide⟩ ?_
      exact ⟨_, rfl, rfl, h⟩
  · replace h := b_wp_t c1 h
    refine v_iconst ⟨by decide, by decide⟩ dX12_linked_7 ?_
    refine v_ireturn rfl dX12_linked_8 ⟨by decide, by decide⟩ ?_
    exact ⟨_, rfl, rfl, h⟩
theorem cf_X12_linked {l : Launch} {E : bE} {M : bM} {v1 : Int} {Q : Int → Prop} (h : b_wp (F_X12_linked v1 M) Q) : b_C l E xX12_linked yX12_linked [bR 11, bI v1] M (b_pIp M Q) := b_met (by decide) ⟨rfl, rfl⟩ (Nat.le_of_ble_eq_true rfl) (fun _ _ => t_X12_linked h)
abbrev xX12_judge : bX := ("BurntHallModel", prog_14_method_105_code, 13, (Option.some Jvm.ClassFile.FieldType.int), b_rm 5 0 0, 0, "judge")
abbrev yX12_judge : MethodName := ⟨"BurntHallModel", "judge", "(III)I"⟩
theorem dX12_judge_0 : decode prog_14_method_105_code 0 = .ok (.aload_n 0, 1) := by decide +kernel
theorem dX12_judge_1 : decode prog_14_method_105_code 1 = .ok (.getfield 283, 3) := by decide +kernel
theorem dX12_judge_4 : decode prog_14_method_105_code 4 = .ok (.istore 4, 2) := by decide +kernel
theorem dX12_judge_6 : decode prog_14_method_105_code 6 = .ok (.aload_n 0, 1) := by decide +kernel
theorem dX12_judge_7 : decode prog_14_method_105_code 7 = .ok (.iconst 0, 1) := by decide +kernel
theorem dX12_judge_8 : decode prog_14_method_105_code 8 = .ok (.putfield 283, 3) := by decide +kernel
theorem dX12_judge_11 : decode prog_14_method_105_code 11 = .ok (.aload_n 0, 1) := by decide +kernel
theorem dX12_judge_12 : decode prog_14_method_105_code 12 = .ok (.iload_n 1, 1) := by decide +kernel
theorem dX12_judge_13 : decode prog_14_method_105_code 13 = .ok (.invokevirtual 385, 3) := by decide +kernel
theorem dX12_judge_16 : decode prog_14_method_105_code 16 = .ok (.ifCond .eq 18, 3) := by decide +kernel
theorem dX12_judge_19 : decode prog_14_method_105_code 19 = .ok (.aload_n 0, 1) := by decide +kernel
theorem dX12_judge_20 : decode prog_14_method_105_code 20 = .ok (.iload_n 2, 1) := by decide +kernel
theorem dX12_judge_21 : decode prog_14_method_105_code 21 = .ok (.invokevirtual 356, 3) := by decide +kernel
theorem dX12_judge_24 : decode prog_14_method_105_code 24 = .ok (.ifCond .eq 10, 3) := by decide +kernel
theorem dX12_judge_27 : decode prog_14_method_105_code 27 = .ok (.iload_n 3, 1) := by decide +kernel
theorem dX12_judge_28 : decode prog_14_method_105_code 28 = .ok (.invokestatic 347, 3) := by decide +kernel
theorem dX12_judge_31 : decode prog_14_method_105_code 31 = .ok (.ifCond .ne 6, 3) := by decide +kernel
theorem dX12_judge_34 : decode prog_14_method_105_code 34 = .ok (.bipush (-2), 2) := by decide +kernel
theorem dX12_judge_36 : decode prog_14_method_105_code 36 = .ok (.ireturn, 1) := by decide +kernel
theorem dX12_judge_37 : decode prog_14_method_105_code 37 = .ok (.iload 4, 2) := by decide +kernel
theorem dX12_judge_39 : decode prog_14_method_105_code 39 = .ok (.bipush 8, 2) := by decide +kernel
theorem dX12_judge_41 : decode prog_14_method_105_code 41 = .ok (.if_icmp .le 5, 3) := by decide +kernel
theorem dX12_judge_44 : decode prog_14_method_105_code 44 = .ok (.iconst (-1), 1) := by decide +kernel
theorem dX12_judge_45 : decode prog_14_method_105_code 45 = .ok (.ireturn, 1) := by decide +kernel
theorem dX12_judge_46 : decode prog_14_method_105_code 46 = .ok (.aload_n 0, 1) := by decide +kernel
theorem dX12_judge_47 : decode prog_14_method_105_code 47 = .ok (.iload_n 3, 1) := by decide +kernel
theorem dX12_judge_48 : decode prog_14_method_105_code 48 = .ok (.invokevirtual 534, 3) := by decide +kernel
theorem dX12_judge_51 : decode prog_14_method_105_code 51 = .ok (.aload_n 0, 1) := by decide +kernel
theorem dX12_judge_52 : decode prog_14_method_105_code 52 = .ok (.aload_n 0, 1) := by decide +kernel
theorem dX12_judge_53 : decode prog_14_method_105_code 53 = .ok (.iload_n 3, 1) := by decide +kernel
theorem dX12_judge_54 : decode prog_14_method_105_code 54 = .ok (.bipush 8, 2) := by decide +kernel
theorem dX12_judge_56 : decode prog_14_method_105_code 56 = .ok (.invokevirtual 493, 3) := by decide +kernel
theorem dX12_judge_59 : decode prog_14_method_105_code 59 = .ok (.iconst 1, 1) := by decide +kernel
theorem dX12_judge_60 : decode prog_14_method_105_code 60 = .ok (.if_icmp .ne 7, 3) := by decide +kernel
theorem dX12_judge_63 : decode prog_14_method_105_code 63 = .ok (.iconst 1, 1) := by decide +kernel
theorem dX12_judge_64 : decode prog_14_method_105_code 64 = .ok (.goto 4, 3) := by decide +kernel
theorem dX12_judge_67 : decode prog_14_method_105_code 67 = .ok (.iconst 0, 1) := by decide +kernel
theorem dX12_judge_68 : decode prog_14_method_105_code 68 = .ok (.putfield 543, 3) := by decide +kernel
theorem dX12_judge_71 : decode prog_14_method_105_code 71 = .ok (.aload_n 0, 1) := by decide +kernel
theorem dX12_judge_72 : decode prog_14_method_105_code 72 = .ok (.iload_n 3, 1) := by decide +kernel
theorem dX12_judge_73 : decode prog_14_method_105_code 73 = .ok (.putfield 547, 3) := by decide +kernel
theorem dX12_judge_76 : decode prog_14_method_105_code 76 = .ok (.aload_n 0, 1) := by decide +kernel
theorem dX12_judge_77 : decode prog_14_method_105_code 77 = .ok (.aload_n 0, 1) := by decide +kernel
theorem dX12_judge_78 : decode prog_14_method_105_code 78 = .ok (.getfield 51, 3) := by decide +kernel
theorem dX12_judge_81 : decode prog_14_method_105_code 81 = .ok (.iload_n 1, 1) := by decide +kernel
theorem dX12_judge_82 : decode prog_14_method_105_code 82 = .ok (.laload, 1) := by decide +kernel
theorem dX12_judge_83 : decode prog_14_method_105_code 83 = .ok (.putfield 540, 3) := by decide +kernel
theorem dX12_judge_86 : decode prog_14_method_105_code 86 = .ok (.aload_n 0, 1) := by decide +kernel
theorem dX12_judge_87 : decode prog_14_method_105_code 87 = .ok (.iload_n 2, 1) := by decide +kernel
theorem dX12_judge_88 : decode prog_14_method_105_code 88 = .ok (.putfield 565, 3) := by decide +kernel
theorem dX12_judge_91 : decode prog_14_method_105_code 91 = .ok (.iconst 0, 1) := by decide +kernel
theorem dX12_judge_92 : decode prog_14_method_105_code 92 = .ok (.istore 5, 2) := by decide +kernel
theorem dX12_judge_94 : decode prog_14_method_105_code 94 = .ok (.iload 5, 2) := by decide +kernel
theorem dX12_judge_96 : decode prog_14_method_105_code 96 = .ok (.iload 4, 2) := by decide +kernel
theorem dX12_judge_98 : decode prog_14_method_105_code 98 = .ok (.if_icmp .ge 82, 3) := by decide +kernel
theorem dX12_judge_101 : decode prog_14_method_105_code 101 = .ok (.aload_n 0, 1) := by decide +kernel
theorem dX12_judge_102 : decode prog_14_method_105_code 102 = .ok (.getfield 9, 3) := by decide +kernel
theorem dX12_judge_105 : decode prog_14_method_105_code 105 = .ok (.iload 5, 2) := by decide +kernel
theorem dX12_judge_107 : decode prog_14_method_105_code 107 = .ok (.baload, 1) := by decide +kernel
theorem dX12_judge_108 : decode prog_14_method_105_code 108 = .ok (.bipush 48, 2) := by decide +kernel
theorem dX12_judge_110 : decode prog_14_method_105_code 110 = .ok (.isub, 1) := by decide +kernel
theorem dX12_judge_111 : decode prog_14_method_105_code 111 = .ok (.istore 6, 2) := by decide +kernel
theorem dX12_judge_113 : decode prog_14_method_105_code 113 = .ok (.iload 6, 2) := by decide +kernel
theorem dX12_judge_115 : decode prog_14_method_105_code 115 = .ok (.iconst 0, 1) := by decide +kernel
theorem dX12_judge_116 : decode prog_14_method_105_code 116 = .ok (.aload_n 0, 1) := by decide +kernel
theorem dX12_judge_117 : decode prog_14_method_105_code 117 = .ok (.getfield 496, 3) := by decide +kernel
theorem dX12_judge_120 : decode prog_14_method_105_code 120 = .ok (.iconst 1, 1) := by decide +kernel
theorem dX12_judge_121 : decode prog_14_method_105_code 121 = .ok (.isub, 1) := by decide +kernel
theorem dX12_judge_122 : decode prog_14_method_105_code 122 = .ok (.invokestatic 279, 3) := by decide +kernel
theorem dX12_judge_125 : decode prog_14_method_105_code 125 = .ok (.ifCond .eq 12, 3) := by decide +kernel
theorem dX12_judge_128 : decode prog_14_method_105_code 128 = .ok (.aload_n 0, 1) := by decide +kernel
theorem dX12_judge_129 : decode prog_14_method_105_code 129 = .ok (.iload 6, 2) := by decide +kernel
theorem dX12_judge_131 : decode prog_14_method_105_code 131 = .ok (.invokevirtual 553, 3) := by decide +kernel
theorem dX12_judge_134 : decode prog_14_method_105_code 134 = .ok (.ifCond .ne 5, 3) := by decide +kernel
theorem dX12_judge_137 : decode prog_14_method_105_code 137 = .ok (.iconst (-1), 1) := by decide +kernel
theorem dX12_judge_138 : decode prog_14_method_105_code 138 = .ok (.ireturn, 1) := by decide +kernel
theorem dX12_judge_139 : decode prog_14_method_105_code 139 = .ok (.iconst 0, 1) := by decide +kernel
theorem dX12_judge_140 : decode prog_14_method_105_code 140 = .ok (.istore 7, 2) := by decide +kernel
theorem dX12_judge_142 : decode prog_14_method_105_code 142 = .ok (.iload 7, 2) := by decide +kernel
theorem dX12_judge_144 : decode prog_14_method_105_code 144 = .ok (.iload 5, 2) := by decide +kernel
theorem dX12_judge_146 : decode prog_14_method_105_code 146 = .ok (.if_icmp .ge 28, 3) := by decide +kernel
theorem dX12_judge_149 : decode prog_14_method_105_code 149 = .ok (.aload_n 0, 1) := by decide +kernel
theorem dX12_judge_150 : decode prog_14_method_105_code 150 = .ok (.getfield 9, 3) := by decide +kernel
theorem dX12_judge_153 : decode prog_14_method_105_code 153 = .ok (.iload 7, 2) := by decide +kernel
theorem dX12_judge_155 : decode prog_14_method_105_code 155 = .ok (.baload, 1) := by decide +kernel
theorem dX12_judge_156 : decode prog_14_method_105_code 156 = .ok (.aload_n 0, 1) := by decide +kernel
theorem dX12_judge_157 : decode prog_14_method_105_code 157 = .ok (.getfield 9, 3) := by decide +kernel
theorem dX12_judge_160 : decode prog_14_method_105_code 160 = .ok (.iload 5, 2) := by decide +kernel
theorem dX12_judge_162 : decode prog_14_method_105_code 162 = .ok (.baload, 1) := by decide +kernel
theorem dX12_judge_163 : decode prog_14_method_105_code 163 = .ok (.if_icmp .ne 5, 3) := by decide +kernel
theorem dX12_judge_166 : decode prog_14_method_105_code 166 = .ok (.iconst (-1), 1) := by decide +kernel
theorem dX12_judge_167 : decode prog_14_method_105_code 167 = .ok (.ireturn, 1) := by decide +kernel
theorem dX12_judge_168 : decode prog_14_method_105_code 168 = .ok (.iinc 7 1, 3) := by decide +kernel
theorem dX12_judge_171 : decode prog_14_method_105_code 171 = .ok (.goto (-29), 3) := by decide +kernel
theorem dX12_judge_174 : decode prog_14_method_105_code 174 = .ok (.iinc 5 1, 3) := by decide +kernel
theorem dX12_judge_177 : decode prog_14_method_105_code 177 = .ok (.goto (-83), 3) := by decide +kernel
theorem dX12_judge_180 : decode prog_14_method_105_code 180 = .ok (.iconst (-1), 1) := by decide +kernel
theorem dX12_judge_181 : decode prog_14_method_105_code 181 = .ok (.istore 5, 2) := by decide +kernel
theorem dX12_judge_183 : decode prog_14_method_105_code 183 = .ok (.iconst 0, 1) := by decide +kernel
theorem dX12_judge_184 : decode prog_14_method_105_code 184 = .ok (.istore 6, 2) := by decide +kernel
theorem dX12_judge_186 : decode prog_14_method_105_code 186 = .ok (.iload 6, 2) := by decide +kernel
theorem dX12_judge_188 : decode prog_14_method_105_code 188 = .ok (.aload_n 0, 1) := by decide +kernel
theorem dX12_judge_189 : decode prog_14_method_105_code 189 = .ok (.getfield 374, 3) := by decide +kernel
theorem dX12_judge_192 : decode prog_14_method_105_code 192 = .ok (.if_icmp .ge 176, 3) := by decide +kernel
theorem dX12_judge_195 : decode prog_14_method_105_code 195 = .ok (.aload_n 0, 1) := by decide +kernel
theorem dX12_judge_196 : decode prog_14_method_105_code 196 = .ok (.iload 6, 2) := by decide +kernel
theorem dX12_judge_198 : decode prog_14_method_105_code 198 = .ok (.invokevirtual 562, 3) := by decide +kernel
theorem dX12_judge_201 : decode prog_14_method_105_code 201 = .ok (.ifCond .ne 6, 3) := by decide +kernel
theorem dX12_judge_204 : decode prog_14_method_105_code 204 = .ok (.goto 158, 3) := by decide +kernel
theorem dX12_judge_207 : decode prog_14_method_105_code 207 = .ok (.aload_n 0, 1) := by decide +kernel
theorem dX12_judge_208 : decode prog_14_method_105_code 208 = .ok (.getfield 185, 3) := by decide +kernel
theorem dX12_judge_211 : decode prog_14_method_105_code 211 = .ok (.iload 6, 2) := by decide +kernel
theorem dX12_judge_213 : decode prog_14_method_105_code 213 = .ok (.iaload, 1) := by decide +kernel
theorem dX12_judge_214 : decode prog_14_method_105_code 214 = .ok (.istore 7, 2) := by decide +kernel
theorem dX12_judge_216 : decode prog_14_method_105_code 216 = .ok (.aload_n 0, 1) := by decide +kernel
theorem dX12_judge_217 : decode prog_14_method_105_code 217 = .ok (.getfield 188, 3) := by decide +kernel
theorem dX12_judge_220 : decode prog_14_method_105_code 220 = .ok (.iload 6, 2) := by decide +kernel
theorem dX12_judge_222 : decode prog_14_method_105_code 222 = .ok (.iaload, 1) := by decide +kernel
theorem dX12_judge_223 : decode prog_14_method_105_code 223 = .ok (.istore 8, 2) := by decide +kernel
theorem dX12_judge_225 : decode prog_14_method_105_code 225 = .ok (.iconst 0, 1) := by decide +kernel
theorem dX12_judge_226 : decode prog_14_method_105_code 226 = .ok (.istore 9, 2) := by decide +kernel
theorem dX12_judge_228 : decode prog_14_method_105_code 228 = .ok (.iconst 1, 1) := by decide +kernel
theorem dX12_judge_229 : decode prog_14_method_105_code 229 = .ok (.istore 10, 2) := by decide +kernel
theorem dX12_judge_231 : decode prog_14_method_105_code 231 = .ok (.iconst 0, 1) := by decide +kernel
theorem dX12_judge_232 : decode prog_14_method_105_code 232 = .ok (.istore 11, 2) := by decide +kernel
theorem dX12_judge_234 : decode prog_14_method_105_code 234 = .ok (.iload 11, 2) := by decide +kernel
theorem dX12_judge_236 : decode prog_14_method_105_code 236 = .ok (.iload 4, 2) := by decide +kernel
theorem dX12_judge_238 : decode prog_14_method_105_code 238 = .ok (.if_icmp .ge 93, 3) := by decide +kernel
theorem dX12_judge_241 : decode prog_14_method_105_code 241 = .ok (.aload_n 0, 1) := by decide +kernel
theorem dX12_judge_242 : decode prog_14_method_105_code 242 = .ok (.getfield 9, 3) := by decide +kernel
theorem dX12_judge_245 : decode prog_14_method_105_code 245 = .ok (.iload 11, 2) := by decide +kernel
theorem dX12_judge_247 : decode prog_14_method_105_code 247 = .ok (.baload, 1) := by decide +kernel
theorem dX12_judge_248 : decode prog_14_method_105_code 248 = .ok (.bipush 48, 2) := by decide +kernel
theorem dX12_judge_250 : decode prog_14_method_105_code 250 = .ok (.isub, 1) := by decide +kernel
theorem dX12_judge_251 : decode prog_14_method_105_code 251 = .ok (.istore 12, 2) := by decide +kernel
theorem dX12_judge_253 : decode prog_14_method_105_code 253 = .ok (.iload 10, 2) := by decide +kernel
theorem dX12_judge_255 : decode prog_14_method_105_code 255 = .ok (.ifCond .eq 19, 3) := by decide +kernel
theorem dX12_judge_258 : decode prog_14_method_105_code 258 = .ok (.aload_n 0, 1) := by decide +kernel
theorem dX12_judge_259 : decode prog_14_method_105_code 259 = .ok (.getfield 170, 3) := by decide +kernel
theorem dX12_judge_262 : decode prog_14_method_105_code 262 = .ok (.iload 12, 2) := by decide +kernel
theorem dX12_judge_264 : decode prog_14_method_105_code 264 = .ok (.iaload, 1) := by decide +kernel
theorem dX12_judge_265 : decode prog_14_method_105_code 265 = .ok (.iload 8, 2) := by decide +kernel
theorem dX12_judge_267 : decode prog_14_method_105_code 267 = .ok (.if_icmp .lt 7, 3) := by decide +kernel
theorem dX12_judge_270 : decode prog_14_method_105_code 270 = .ok (.iconst 1, 1) := by decide +kernel
theorem dX12_judge_271 : decode prog_14_method_105_code 271 = .ok (.goto 4, 3) := by decide +kernel
theorem dX12_judge_274 : decode prog_14_method_105_code 274 = .ok (.iconst 0, 1) := by decide +kernel
theorem dX12_judge_275 : decode prog_14_method_105_code 275 = .ok (.istore 10, 2) := by decide +kernel
theorem dX12_judge_277 : decode prog_14_method_105_code 277 = .ok (.iload 8, 2) := by decide +kernel
theorem dX12_judge_279 : decode prog_14_method_105_code 279 = .ok (.aload_n 0, 1) := by decide +kernel
theorem dX12_judge_280 : decode prog_14_method_105_code 280 = .ok (.getfield 167, 3) := by decide +kernel
theorem dX12_judge_283 : decode prog_14_method_105_code 283 = .ok (.iload 12, 2) := by decide +kernel
theorem dX12_judge_285 : decode prog_14_method_105_code 285 = .ok (.iaload, 1) := by decide +kernel
theorem dX12_judge_286 : decode prog_14_method_105_code 286 = .ok (.invokestatic 417, 3) := by decide +kernel
theorem dX12_judge_289 : decode prog_14_method_105_code 289 = .ok (.istore 8, 2) := by decide +kernel
theorem dX12_judge_291 : decode prog_14_method_105_code 291 = .ok (.iload 9, 2) := by decide +kernel
theorem dX12_judge_293 : decode prog_14_method_105_code 293 = .ok (.aload_n 0, 1) := by decide +kernel
theorem dX12_judge_294 : decode prog_14_method_105_code 294 = .ok (.iload 7, 2) := by decide +kernel
theorem dX12_judge_296 : decode prog_14_method_105_code 296 = .ok (.iload 12, 2) := by decide +kernel
theorem dX12_judge_298 : decode prog_14_method_105_code 298 = .ok (.invokevirtual 559, 3) := by decide +kernel
theorem dX12_judge_301 : decode prog_14_method_105_code 301 = .ok (.ifCond .eq 7, 3) := by decide +kernel
theorem dX12_judge_304 : decode prog_14_method_105_code 304 = .ok (.iconst 0, 1) := by decide +kernel
theorem dX12_judge_305 : decode prog_14_method_105_code 305 = .ok (.goto 4, 3) := by decide +kernel
theorem dX12_judge_308 : decode prog_14_method_105_code 308 = .ok (.iconst 1, 1) := by decide +kernel
theorem dX12_judge_309 : decode prog_14_method_105_code 309 = .ok (.iadd, 1) := by decide +kernel
theorem dX12_judge_310 : decode prog_14_method_105_code 310 = .ok (.istore 9, 2) := by decide +kernel
theorem dX12_judge_312 : decode prog_14_method_105_code 312 = .ok (.aload_n 0, 1) := by decide +kernel
theorem dX12_judge_313 : decode prog_14_method_105_code 313 = .ok (.getfield 161, 3) := by decide +kernel
theorem dX12_judge_316 : decode prog_14_method_105_code 316 = .ok (.iconst 3, 1) := by decide +kernel
theorem dX12_judge_317 : decode prog_14_method_105_code 317 = .ok (.iload 12, 2) := by decide +kernel
theorem dX12_judge_319 : decode prog_14_method_105_code 319 = .ok (.imul, 1) := by decide +kernel
theorem dX12_judge_320 : decode prog_14_method_105_code 320 = .ok (.iconst 1, 1) := by decide +kernel
theorem dX12_judge_321 : decode prog_14_method_105_code 321 = .ok (.iadd, 1) := by decide +kernel
theorem dX12_judge_322 : decode prog_14_method_105_code 322 = .ok (.iaload, 1) := by decide +kernel
theorem dX12_judge_323 : decode prog_14_method_105_code 323 = .ok (.istore 7, 2) := by decide +kernel
theorem dX12_judge_325 : decode prog_14_method_105_code 325 = .ok (.iinc 11 1, 3) := by decide +kernel
theorem dX12_judge_328 : decode prog_14_method_105_code 328 = .ok (.goto (-94), 3) := by decide +kernel
theorem dX12_judge_331 : decode prog_14_method_105_code 331 = .ok (.iload 10, 2) := by decide +kernel
theorem dX12_judge_333 : decode prog_14_method_105_code 333 = .ok (.ifCond .eq 29, 3) := by decide +kernel
theorem dX12_judge_336 : decode prog_14_method_105_code 336 = .ok (.aload_n 0, 1) := by decide +kernel
theorem dX12_judge_337 : decode prog_14_method_105_code 337 = .ok (.iload 7, 2) := by decide +kernel
theorem dX12_judge_339 : decode prog_14_method_105_code 339 = .ok (.invokevirtual 556, 3) := by decide +kernel
theorem dX12_judge_342 : decode prog_14_method_105_code 342 = .ok (.ifCond .eq 20, 3) := by decide +kernel
theorem dX12_judge_345 : decode prog_14_method_105_code 345 = .ok (.iload 5, 2) := by decide +kernel
theorem dX12_judge_347 : decode prog_14_method_105_code 347 = .ok (.iconst (-1), 1) := by decide +kernel
theorem dX12_judge_348 : decode prog_14_method_105_code 348 = .ok (.if_icmp .eq 10, 3) := by decide +kernel
theorem dX12_judge_351 : decode prog_14_method_105_code 351 = .ok (.iload 9, 2) := by decide +kernel
theorem dX12_judge_353 : decode prog_14_method_105_code 353 = .ok (.iload 5, 2) := by decide +kernel
theorem dX12_judge_355 : decode prog_14_method_105_code 355 = .ok (.if_icmp .ge 7, 3) := by decide +kernel
theorem dX12_judge_358 : decode prog_14_method_105_code 358 = .ok (.iload 9, 2) := by decide +kernel
theorem dX12_judge_360 : decode prog_14_method_105_code 360 = .ok (.istore 5, 2) := by decide +kernel
theorem dX12_judge_362 : decode prog_14_method_105_code 362 = .ok (.iinc 6 1, 3) := by decide +kernel
theorem dX12_judge_365 : decode prog_14_method_105_code 365 = .ok (.goto (-179), 3) := by decide +kernel
theorem dX12_judge_368 : decode prog_14_method_105_code 368 = .ok (.iload 5, 2) := by decide +kernel
theorem dX12_judge_370 : decode prog_14_method_105_code 370 = .ok (.ireturn, 1) := by decide +kernel
abbrev A_X12_judge_94 (l : Launch) (E : bE) (Q : (Int × bM) → Prop) (v4 : Int) (M : bM) : (Int) → Prop := (fun t : Int => V l E xX12_judge (0, 0) 94 [(0, bR 11), (4, bI v4), (5, bI t)] [] M (b_pI Q))
abbrev X_X12_judge_94 (l : Launch) (E : bE) (Q : (Int × bM) → Prop) (v4 : Int) (M : bM) : ((Unit) ⊕ (Int × bM)) → Prop := (Sum.elim (fun t : Unit => V l E xX12_judge (0, 0) 180 [(0, bR 11), (4, bI v4)] [] M (b_pI Q)) Q)
abbrev A_X12_judge_142 (l : Launch) (E : bE) (Q : (Int × bM) → Prop) (v4 : Int) (v5 : Int) (M : bM) : (Int) → Prop := (fun t : Int => V l E xX12_judge (0, 0) 142 [(0, bR 11), (4, bI v4), (5, bI v5), (7, bI t)] [] M (b_pI Q))
abbrev X_X12_judge_142 (l : Launch) (E : bE) (Q : (Int × bM) → Prop) (v4 : Int) (v5 : Int) (M : bM) : ((Unit) ⊕ ((Int) ⊕ ((Unit) ⊕ (Int × bM)))) → Prop := (Sum.elim (fun t : Unit => V l E xX12_judge (0, 0) 174 [(0, bR 11), (4, bI v4), (5, bI v5)] [] M (b_pI Q)) (Sum.elim (A_X12_judge_94 l E Q v4 M) (X_X12_judge_94 l E Q v4 M)))
noncomputable def F_X12_judge_s142 (v4 : Int) (v5 : Int) (v7 : Int) (M : bM) : Option ((Int) ⊕ ((Unit) ⊕ ((Int) ⊕ ((Unit) ⊕ (Int × bM))))) :=
  if v5 ≤ v7 then (some (.inr (.inl ()))) else (b_g ((0 ≤ v7 ∧ v7 < 1000) ∧ (0 ≤ v5 ∧ v5 < 1000)) (if (M 162 v7) = (M 162 v5) then (some (.inr (.inr (.inr (.inr ((-1), M)))))) else (b_g (b_i32 (v7 + 1)) (some (.inl ((v7 + 1)))))))
theorem t_X12_judge_s142 {l : Launch} {E : bE} {Q : (Int × bM) → Prop} {v4 : Int} {v5 : Int} {v7 : Int} {M : bM} (h : b_wp (F_X12_judge_s142 v4 v5 v7 M) (Sum.elim (A_X12_judge_142 l E Q v4 v5 M) (X_X12_judge_142 l E Q v4 v5 M))) : V l E xX12_judge (0, 0) 142 [(0, bR 11), (4, bI v4), (5, bI v5), (7, bI v7)] [] M (b_pI Q) := by
  unfold F_X12_judge_s142 at h
  refine v_iload (i := 7) 3 rfl dX12_judge_142 ?_
  refine v_iload (i := 5) 2 rfl dX12_judge_144 ?_
  refine v_icmp_ge (tgt := 174) dX12_judge_146 (by decide) (fun c27 => ?_) (fun c27 => ?_)
  · replace h := b_wp_t c27 h
    refine v_sub (ls2 := [(0, bR _), (4, bI _), (5, bI _)]) [0, 1, 2] rfl ?_
    exact h
  · replace h := b_wp_f c27 h
    obtain ⟨⟨g28, g29⟩, h⟩ := b_wp_g h
    refine v_aload_n (f := 0) 0 rfl dX12_judge_149 ?_
    refine v_getR (kf := 0) (kz := 0) rfl kd_11 rfl ⟨by decide, by decide⟩ rfl wf_12_9 dX12_judge_150 ?_
    refine v_iload (i := 7) 3 rfl dX12_judge_153 ?_
    refine v_baload kd_162 g28 (by decide) dX12_judge_155 ?_
    refine v_aload_n (f := 0) 0 rfl dX12_judge_156 ?_
    refine v_getR (kf := 0) (kz := 0) rfl kd_11 rfl ⟨by decide, by decide⟩ rfl wf_12_9 dX12_judge_157 ?_
    refine v_iload (i := 5) 2 rfl dX12_judge_160 ?_
    refine v_baload kd_162 g29 (by decide) dX12_judge_162 ?_
    refine v_icmp_ne (tgt := 168) dX12_judge_163 (by decide) (fun c30 => ?_) (fun c30 => ?_)
    · replace h := b_wp_f c30 h
      obtain ⟨g31, h⟩ := b_wp_g h
      refine v_iincN (ls' := [(7, bI _), (0, bR _), (4, bI _), (5, bI _)]) 3 rfl (by decide) g31 dX12_judge_168 rfl ?_
      refine v_goto (tgt := 142) dX12_judge_171 (by decide) ?_
      refine v_sub (ls2 := [(0, bR _), (4, bI _), (5, bI _), (7, bI _)]) [1, 2, 3, 0] rfl ?_
      exact h
    · replace h := b_wp_t c30 h
      refine v_iconst ⟨by decide, by decide⟩ dX12_judge_166 ?_
      refine v_ireturn rfl dX12_judge_167 ⟨by decide, by decide⟩ ?_
      exact ⟨_, rfl, h⟩
theorem l_X12_judge_142 {l : Launch} {E : bE} {Q : (Int × bM) → Prop} {v4 : Int} {v5 : Int} {M : bM} {s : Int} (h : b_wp (b_loop (fun t => F_X12_judge_s142 v4 v5 t M) s) (X_X12_judge_142 l E Q v4 v5 M)) : A_X12_judge_142 l E Q v4 v5 M s := b_loop_wp (fun t h => t_X12_judge_s142 h) s h
noncomputable def F_X12_judge_b174 (v4 : Int) (v5 : Int) (M : bM) : Option ((Int) ⊕ ((Unit) ⊕ (Int × bM))) :=
  b_g (b_i32 (v5 + 1)) (some (.inl ((v5 + 1))))
theorem t_X12_judge_b174 {l : Launch} {E : bE} {Q : (Int × bM) → Prop} {v4 : Int} {v5 : Int} {M : bM} (h : b_wp (F_X12_judge_b174 v4 v5 M) (Sum.elim (A_X12_judge_94 l E Q v4 M) (X_X12_judge_94 l E Q v4 M))) : V l E xX12_judge (0, 0) 174 [(0, bR 11), (4, bI v4), (5, bI v5)] [] M (b_pI Q) := by
  unfold F_X12_judge_b174 at h
  obtain ⟨g32, h⟩ := b_wp_g h
  refine v_iincN (ls' := [(5, bI _), (0, bR _), (4, bI _)]) 2 rfl (by decide) g32 dX12_judge_174 rfl ?_
  refine v_goto (tgt := 94) dX12_judge_177 (by decide) ?_
  refine v_sub (ls2 := [(0, bR _), (4, bI _), (5, bI _)]) [1, 2, 0] rfl ?_
  exact h
noncomputable def F_X12_judge_s94 (v4 : Int) (v5 : Int) (M : bM) : Option ((Int) ⊕ ((Unit) ⊕ (Int × bM))) :=
  if v4 ≤ v5 then (some (.inr (.inl ()))) else (b_g ((0 ≤ v5 ∧ v5 < 1000) ∧ (b_i32 ((M 162 v5) - 48))) (b_let (((M 162 v5) - 48)) (fun y21 => b_g (b_i32 ((M 11 52) - 1)) (b_bind (F_X12_in y21 0 ((M 11 52) - 1) M) (fun x23 => if x23 = 0 then (some (.inr (.inr ((-1), M)))) else (b_bind (F_X12_isLink y21 M) (fun x25 => if x25 = 0 then (some (.inr (.inr ((-1), M)))) else (b_bind (b_loop (fun t => F_X12_judge_s142 v4 v5 t M) (0)) (Sum.elim (fun t => F_X12_judge_b174 v4 v5 M) some)))))))))
theorem t_X12_judge_s94 {l : Launch} {E : bE} {Q : (Int × bM) → Prop} {v4 : Int} {v5 : Int} {M : bM} (h : b_wp (F_X12_judge_s94 v4 v5 M) (Sum.elim (A_X12_judge_94 l E Q v4 M) (X_X12_judge_94 l E Q v4 M))) : V l E xX12_judge (0, 0) 94 [(0, bR 11), (4, bI v4), (5, bI v5)] [] M (b_pI Q) := by
  unfold F_X12_judge_s94 at h
  refine v_iload (i := 5) 2 rfl dX12_judge_94 ?_
  refine v_iload (i := 4) 1 rfl dX12_judge_96 ?_
  refine v_icmp_ge (tgt := 180) dX12_judge_98 (by decide) (fun c18 => ?_) (fun c18 => ?_)
  · replace h := b_wp_t c18 h
    refine v_sub (ls2 := [(0, bR _), (4, bI _)]) [0, 1] rfl ?_
    exact h
  · replace h := b_wp_f c18 h
    obtain ⟨⟨g19, g20⟩, h⟩ := b_wp_g h
    refine v_aload_n (f := 0) 0 rfl dX12_judge_101 ?_
    refine v_getR (kf := 0) (kz := 0) rfl kd_11 rfl ⟨by decide, by decide⟩ rfl wf_12_9 dX12_judge_102 ?_
    refine v_iload (i := 5) 2 rfl dX12_judge_105 ?_
    refine v_baload kd_162 g19 (by decide) dX12_judge_107 ?_
    refine v_bipush ⟨by decide, by decide⟩ (by decide) dX12_judge_108 ?_
    refine v_isubN g20 dX12_judge_110 ?_
    replace h := b_wp_l h
    obtain ⟨g22, h⟩ := b_wp_g h
    refine v_istore (i := 6) (ls' := [(6, bI _), (0, bR _), (4, bI _), (5, bI _)]) (by decide) dX12_judge_111 rfl ?_
    refine v_iload (i := 6) 0 rfl dX12_judge_113 ?_
    refine v_iconst ⟨by decide, by decide⟩ dX12_judge_115 ?_
    refine v_aload_n (f := 0) 1 rfl dX12_judge_116 ?_
    refine v_getI (kf := 52) (kz := 52) rfl kd_11 rfl ⟨by decide, by decide⟩ rfl wf_12_496 dX12_judge_117 ?_
    refine v_iconst ⟨by decide, by decide⟩ dX12_judge_120 ?_
    refine v_isubN g22 dX12_judge_121 ?_
    refine v_cSIp (nA := 3) (As := [bI _, bI _, bI _]) (ix := 279) (cf_X12_in (b_wp_b h)) rfl wc_X12_in wm_12_279 wi_X12_in wn_12 ⟨by decide, by decide, by decide⟩ rfl ⟨by decide, by decide⟩ ⟨by decide, by decide⟩ (Nat.le_of_ble_eq_true rfl) dX12_judge_122 (fun x23 h => ?_)
    refine v_if_eq (tgt := 137) dX12_judge_125 (by decide) (fun c24 => ?_) (fun c24 => ?_)
    · replace h := b_wp_t c24 h
      refine v_iconst ⟨by decide, by decide⟩ dX12_judge_137 ?_
      refine v_ireturn rfl dX12_judge_138 ⟨by decide, by decide⟩ ?_
      exact ⟨_, rfl, h⟩
    · replace h := b_wp_f c24 h
      refine v_aload_n (f := 0) 1 rfl dX12_judge_128 ?_
      refine v_iload (i := 6) 0 rfl dX12_judge_129 ?_
      refine v_cVIp (nA := 1) (As := [bI _]) (ix := 553) (cf_X12_isLink (b_wp_b h)) rfl kd_11 rfl rfl wc_X12_isLink wm_12_553 wi_X12_isLink ws_X12_isLink wn_12 ⟨by decide, by decide, by decide⟩ rfl ⟨by decide, by decide⟩ ⟨by decide, by decide⟩ (Nat.le_of_ble_eq_true rfl) dX12_judge_131 (fun x25 h => ?_)
      refine v_if_ne (tgt := 139) dX12_judge_134 (by decide) (fun c26 => ?_) (fun c26 => ?_)
      · replace h := b_wp_f c26 h
        refine v_iconst ⟨by decide, by decide⟩ dX12_judge_139 ?_
        refine v_istore (i := 7) (ls' := [(7, bI _), (6, bI _), (0, bR _), (4, bI _), (5, bI _)]) (by decide) dX12_judge_140 rfl ?_
        refine v_sub (ls2 := [(0, bR _), (4, bI _), (5, bI _), (7, bI _)]) [2, 3, 4, 0] rfl ?_
        refine l_X12_judge_142 (b_wp_m (fun t h => ?_) (b_wp_b h))
        cases t with
        | inr o => exact h
        | inl t =>
          show V l E xX12_judge (0, 0) 174 [(0, bR 11), (4, bI _), (5, bI _)] [] _ (b_pI Q)
          replace h := b_wp_inl h
          exact t_X12_judge_b174 h
      · replace h := b_wp_t c26 h
        refine v_iconst ⟨by decide, by decide⟩ dX12_judge_137 ?_
        refine v_ireturn rfl dX12_judge_138 ⟨by decide, by decide⟩ ?_
        exact ⟨_, rfl, h⟩
theorem l_X12_judge_94 {l : Launch} {E : bE} {Q : (Int × bM) → Prop} {v4 : Int} {M : bM} {s : Int} (h : b_wp (b_loop (fun t => F_X12_judge_s94 v4 t M) s) (X_X12_judge_94 l E Q v4 M)) : A_X12_judge_94 l E Q v4 M s := b_loop_wp (fun t h => t_X12_judge_s94 h) s h
abbrev A_X12_judge_186 (l : Launch) (E : bE) (Q : (Int × bM) → Prop) (v4 : Int) (M : bM) : (Int × Int) → Prop := (fun t : Int × Int => V l E xX12_judge (0, 0) 186 [(0, bR 11), (4, bI v4), (5, bI (t.1)), (6, bI (t.2))] [] M (b_pI Q))
abbrev X_X12_judge_186 (l : Launch) (E : bE) (Q : (Int × bM) → Prop) (v4 : Int) (M : bM) : (Int) → Prop := (fun t : Int => V l E xX12_judge (0, 0) 368 [(5, bI t)] [] M (b_pI Q))
abbrev A_X12_judge_234 (l : Launch) (E : bE) (Q : (Int × bM) → Prop) (v4 : Int) (v5 : Int) (v6 : Int) (M : bM) : (Int × Int × Int × Int × Int) → Prop := (fun t : Int × Int × Int × Int × Int => V l E xX12_judge (0, 0) 234 [(0, bR 11), (4, bI v4), (5, bI v5), (6, bI v6), (7, bI (t.1)), (8, bI (t.2.1)), (9, bI (t.2.2.1)), (10, bI (t.2.2.2.1)), (11, bI (t.2.2.2.2))] [] M (b_pI Q))
abbrev X_X12_judge_234 (l : Launch) (E : bE) (Q : (Int × bM) → Prop) (v4 : Int) (v5 : Int) (v6 : Int) (M : bM) : (Int × Int × Int) → Prop := (fun t : Int × Int × Int => V l E xX12_judge (0, 0) 331 [(0, bR 11), (4, bI v4), (5, bI v5), (6, bI v6), (7, bI (t.1)), (9, bI (t.2.1)), (10, bI (t.2.2))] [] M (b_pI Q))
noncomputable def F_X12_judge_b309 (v4 : Int) (v5 : Int) (v6 : Int) (v8 : Int) (v10 : Int) (v11 : Int) (v12 : Int) (u0 : Int) (u1 : Int) (M : bM) : Option ((Int × Int × Int × Int × Int) ⊕ (Int × Int × Int)) :=
  b_g ((b_i32 (u0 + u1)) ∧ (b_i32 (3 * v12)) ∧ (b_i32 ((3 * v12) + 1)) ∧ (0 ≤ ((3 * v12) + 1) ∧ ((3 * v12) + 1) < 90)) (b_let ((M 209 ((3 * v12) + 1))) (fun y53 => b_g (b_i32 (v11 + 1)) (some (.inl (y53, v8, (u0 + u1), v10, (v11 + 1))))))
theorem t_X12_judge_b309 {l : Launch} {E : bE} {Q : (Int × bM) → Prop} {v4 : Int} {v5 : Int} {v6 : Int} {v8 : Int} {v10 : Int} {v11 : Int} {v12 : Int} {u0 : Int} {u1 : Int} {M : bM} (h : b_wp (F_X12_judge_b309 v4 v5 v6 v8 v10 v11 v12 u0 u1 M) (Sum.elim (A_X12_judge_234 l E Q v4 v5 v6 M) (X_X12_judge_234 l E Q v4 v5 v6 M))) : V l E xX12_judge (0, 0) 309 [(0, bR 11), (4, bI v4), (5, bI v5), (6, bI v6), (8, bI v8), (10, bI v10), (11, bI v11), (12, bI v12)] [bI u1, bI u0] M (b_pI Q) := by
  unfold F_X12_judge_b309 at h
  obtain ⟨⟨g49, g50, g51, g52⟩, h⟩ := b_wp_g h
  refine v_iaddN g49 dX12_judge_309 ?_
  refine v_istore (i := 9) (ls' := [(9, bI _), (0, bR _), (4, bI _), (5, bI _), (6, bI _), (8, bI _), (10, bI _), (11, bI _), (12, bI _)]) (by decide) dX12_judge_310 rfl ?_
  refine v_aload_n (f := 0) 1 rfl dX12_judge_312 ?_
  refine v_getR (kf := 70) (kz := 70) rfl kd_11 rfl ⟨by decide, by decide⟩ rfl wf_12_161 dX12_judge_313 ?_
  refine v_iconst ⟨by decide, by decide⟩ dX12_judge_316 ?_
  refine v_iload (i := 12) 8 rfl dX12_judge_317 ?_
  refine v_imulN g50 dX12_judge_319 ?_
  refine v_iconst ⟨by decide, by decide⟩ dX12_judge_320 ?_
  refine v_iaddN g51 dX12_judge_321 ?_
  refine v_iaload kd_209 g52 (by decide) dX12_judge_322 ?_
  replace h := b_wp_l h
  obtain ⟨g54, h⟩ := b_wp_g h
  refine v_istore (i := 7) (ls' := [(7, bI _), (9, bI _), (0, bR _), (4, bI _), (5, bI _), (6, bI _), (8, bI _), (10, bI _), (11, bI _), (12, bI _)]) (by decide) dX12_judge_323 rfl ?_
  refine v_iincN (ls' := [(11, bI _), (7, bI _), (9, bI _), (0, bR _), (4, bI _), (5, bI _), (6, bI _), (8, bI _), (10, bI _), (12, bI _)]) 8 rfl (by decide) g54 dX12_judge_325 rfl ?_
  refine v_goto (tgt := 234) dX12_judge_328 (by decide) ?_
  refine v_sub (ls2 := [(0, bR _), (4, bI _), (5, bI _), (6, bI _), (7, bI _), (8, bI _), (9, bI _), (10, bI _), (11, bI _)]) [3, 4, 5, 6, 1, 7, 2, 8, 0] rfl ?_
  exact h
noncomputable def F_X12_judge_b275 (v4 : Int) (v5 : Int) (v6 : Int) (v7 : Int) (v8 : Int) (v9 : Int) (v11 : Int) (v12 : Int) (u0 : Int) (M : bM) : Option ((Int × Int × Int × Int × Int) ⊕ (Int × Int × Int)) :=
  b_g (0 ≤ v12 ∧ v12 < 30) (b_bind (F_X12_greater v8 (M 211 v12) M) (fun x46 => b_bind (F_X12_isNext v7 v12 M) (fun x47 => if x47 = 0 then (F_X12_judge_b309 v4 v5 v6 x46 u0 v11 v12 v9 1 M) else (F_X12_judge_b309 v4 v5 v6 x46 u0 v11 v12 v9 0 M))))
theorem t_X12_judge_b275 {l : Launch} {E : bE} {Q : (Int × bM) → Prop} {v4 : Int} {v5 : Int} {v6 : Int} {v7 : Int} {v8 : Int} {v9 : Int} {v11 : Int} {v12 : Int} {u0 : Int} {M : bM} (h : b_wp (F_X12_judge_b275 v4 v5 v6 v7 v8 v9 v11 v12 u0 M) (Sum.elim (A_X12_judge_234 l E Q v4 v5 v6 M) (X_X12_judge_234 l E Q v4 v5 v6 M))) : V l E xX12_judge (0, 0) 275 [(0, bR 11), (4, bI v4), (5, bI v5), (6, bI v6), (7, bI v7), (8, bI v8), (9, bI v9), (11, bI v11), (12, bI v12)] [bI u0] M (b_pI Q) := by
  unfold F_X12_judge_b275 at h
  obtain ⟨g45, h⟩ := b_wp_g h
  refine v_istore (i := 10) (ls' := [(10, bI _), (0, bR _), (4, bI _), (5, bI _), (6, bI _), (7, bI _), (8, bI _), (9, bI _), (11, bI _), (12, bI _)]) (by decide) dX12_judge_275 rfl ?_
  refine v_iload (i := 8) 6 rfl dX12_judge_277 ?_
  refine v_aload_n (f := 0) 1 rfl dX12_judge_279 ?_
  refine v_getR (kf := 72) (kz := 72) rfl kd_11 rfl ⟨by decide, by decide⟩ rfl wf_12_167 dX12_judge_280 ?_
  refine v_iload (i := 12) 9 rfl dX12_judge_283 ?_
  refine v_iaload kd_211 g45 (by decide) dX12_judge_285 ?_
  refine v_cSIp (nA := 2) (As := [bI _, bI _]) (ix := 417) (cf_X12_greater (b_wp_b h)) rfl wc_X12_greater wm_12_417 wi_X12_greater wn_12 ⟨by decide, by decide, by decide⟩ rfl ⟨by decide, by decide⟩ ⟨by decide, by decide⟩ (Nat.le_of_ble_eq_true rfl) dX12_judge_286 (fun x46 h => ?_)
  refine v_istore (i := 8) (ls' := [(8, bI _), (10, bI _), (0, bR _), (4, bI _), (5, bI _), (6, bI _), (7, bI _), (9, bI _), (11, bI _), (12, bI _)]) (by decide) dX12_judge_289 rfl ?_
  refine v_iload (i := 9) 7 rfl dX12_judge_291 ?_
  refine v_aload_n (f := 0) 2 rfl dX12_judge_293 ?_
  refine v_iload (i := 7) 6 rfl dX12_judge_294 ?_
  refine v_iload (i := 12) 9 rfl dX12_judge_296 ?_
  refine v_cVIp (nA := 2) (As := [bI _, bI _]) (ix := 559) (cf_X12_isNext (b_wp_b h)) rfl kd_11 rfl rfl wc_X12_isNext wm_12_559 wi_X12_isNext ws_X12_isNext wn_12 ⟨by decide, by decide, by decide⟩ rfl ⟨by decide, by decide⟩ ⟨by decide, by decide⟩ (Nat.le_of_ble_eq_true rfl) dX12_judge_298 (fun x47 h => ?_)
  refine v_if_eq (tgt := 308) dX12_judge_301 (by decide) (fun c48 => ?_) (fun c48 => ?_)
  · replace h := b_wp_t c48 h
    refine v_iconst ⟨by decide, by decide⟩ dX12_judge_308 ?_
    refine v_sub (ls2 := [(0, bR _), (4, bI _), (5, bI _), (6, bI _), (8, bI _), (10, bI _), (11, bI _), (12, bI _)]) [2, 3, 4, 5, 0, 1, 8, 9] rfl ?_
    exact t_X12_judge_b309 h
  · replace h := b_wp_f c48 h
    refine v_iconst ⟨by decide, by decide⟩ dX12_judge_304 ?_
    refine v_goto (tgt := 309) dX12_judge_305 (by decide) ?_
    refine v_sub (ls2 := [(0, bR _), (4, bI _), (5, bI _), (6, bI _), (8, bI _), (10, bI _), (11, bI _), (12, bI _)]) [2, 3, 4, 5, 0, 1, 8, 9] rfl ?_
    exact t_X12_judge_b309 h
noncomputable def F_X12_judge_b274 (v4 : Int) (v5 : Int) (v6 : Int) (v7 : Int) (v8 : Int) (v9 : Int) (v11 : Int) (v12 : Int) (M : bM) : Option ((Int × Int × Int × Int × Int) ⊕ (Int × Int × Int)) :=
  F_X12_judge_b275 v4 v5 v6 v7 v8 v9 v11 v12 0 M
theorem t_X12_judge_b274 {l : Launch} {E : bE} {Q : (Int × bM) → Prop} {v4 : Int} {v5 : Int} {v6 : Int} {v7 : Int} {v8 : Int} {v9 : Int} {v11 : Int} {v12 : Int} {M : bM} (h : b_wp (F_X12_judge_b274 v4 v5 v6 v7 v8 v9 v11 v12 M) (Sum.elim (A_X12_judge_234 l E Q v4 v5 v6 M) (X_X12_judge_234 l E Q v4 v5 v6 M))) : V l E xX12_judge (0, 0) 274 [(0, bR 11), (4, bI v4), (5, bI v5), (6, bI v6), (7, bI v7), (8, bI v8), (9, bI v9), (11, bI v11), (12, bI v12)] [] M (b_pI Q) := by
  unfold F_X12_judge_b274 at h
  refine v_iconst ⟨by decide, by decide⟩ dX12_judge_274 ?_
  exact t_X12_judge_b275 h
noncomputable def F_X12_judge_s234 (v4 : Int) (v5 : Int) (v6 : Int) (v7 : Int) (v8 : Int) (v9 : Int) (v10 : Int) (v11 : Int) (M : bM) : Option ((Int × Int × Int × Int × Int) ⊕ (Int × Int × Int)) :=
  if v4 ≤ v11 then (some (.inr (v7, v9, v10))) else (b_g ((0 ≤ v11 ∧ v11 < 1000) ∧ (b_i32 ((M 162 v11) - 48))) (b_let (((M 162 v11) - 48)) (fun y43 => if v10 = 0 then (F_X12_judge_b274 v4 v5 v6 v7 v8 v9 v11 y43 M) else (b_g (0 ≤ y43 ∧ y43 < 30) (if (M 212 y43) < v8 then (F_X12_judge_b274 v4 v5 v6 v7 v8 v9 v11 y43 M) else (F_X12_judge_b275 v4 v5 v6 v7 v8 v9 v11 y43 1 M))))))
theorem t_X12_judge_s234 {l : Launch} {E : bE} {Q : (Int × bM) → Prop} {v4 : Int} {v5 : Int} {v6 : Int} {v7 : Int} {v8 : Int} {v9 : Int} {v10 : Int} {v11 : Int} {M : bM} (h : b_wp (F_X12_judge_s234 v4 v5 v6 v7 v8 v9 v10 v11 M) (Sum.elim (A_X12_judge_234 l E Q v4 v5 v6 M) (X_X12_judge_234 l E Q v4 v5 v6 M))) : V l E xX12_judge (0, 0) 234 [(0, bR 11), (4, bI v4), (5, bI v5), (6, bI v6), (7, bI v7), (8, bI v8), (9, bI v9), (10, bI v10), (11, bI v11)] [] M (b_pI Q) := by
  unfold F_X12_judge_s234 at h
  refine v_iload (i := 11) 8 rfl dX12_judge_234 ?_
  refine v_iload (i := 4) 1 rfl dX12_judge_236 ?_
  refine v_icmp_ge (tgt := 331) dX12_judge_238 (by decide) (fun c40 => ?_) (fun c40 => ?_)
  · replace h := b_wp_t c40 h
    refine v_sub (ls2 := [(0, bR _), (4, bI _), (5, bI _), (6, bI _), (7, bI _), (9, bI _), (10, bI _)]) [0, 1, 2, 3, 4, 6, 7] rfl ?_
    exact h
  · replace h := b_wp_f c40 h
    obtain ⟨⟨g41, g42⟩, h⟩ := b_wp_g h
    refine v_aload_n (f := 0) 0 rfl dX12_judge_241 ?_
    refine v_getR (kf := 0) (kz := 0) rfl kd_11 rfl ⟨by decide, by decide⟩ rfl wf_12_9 dX12_judge_242 ?_
    refine v_iload (i := 11) 8 rfl dX12_judge_245 ?_
    refine v_baload kd_162 g41 (by decide) dX12_judge_247 ?_
    refine v_bipush ⟨by decide, by decide⟩ (by decide) dX12_judge_248 ?_
    refine v_isubN g42 dX12_judge_250 ?_
    replace h := b_wp_l h
    refine v_istore (i := 12) (ls' := [(12, bI _), (0, bR _), (4, bI _), (5, bI _), (6, bI _), (7, bI _), (8, bI _), (9, bI _), (10, bI _), (11, bI _)]) (by decide) dX12_judge_251 rfl ?_
    refine v_iload (i := 10) 8 rfl dX12_judge_253 ?_
    refine v_if_eq (tgt := 274) dX12_judge_255 (by decide) (fun c44 => ?_) (fun c44 => ?_)
    · replace h := b_wp_t c44 h
      refine v_sub (ls2 := [(0, bR _), (4, bI _), (5, bI _), (6, bI _), (7, bI _), (8, bI _), (9, bI _), (11, bI _), (12, bI _)]) [1, 2, 3, 4, 5, 6, 7, 9, 0] rfl ?_
      exact t_X12_judge_b274 h
    · replace h := b_wp_f c44 h
      obtain ⟨g55, h⟩ := b_wp_g h
      refine v_aload_n (f := 0) 1 rfl dX12_judge_258 ?_
      refine v_getR (kf := 73) (kz := 73) rfl kd_11 rfl ⟨by decide, by decide⟩ rfl wf_12_170 dX12_judge_259 ?_
      refine v_iload (i := 12) 0 rfl dX12_judge_262 ?_
      refine v_iaload kd_212 g55 (by decide) dX12_judge_264 ?_
      refine v_iload (i := 8) 6 rfl dX12_judge_265 ?_
      refine v_icmp_lt (tgt := 274) dX12_judge_267 (by decide) (fun c56 => ?_) (fun c56 => ?_)
      · replace h := b_wp_t c56 h
        refine v_sub (ls2 := [(0, bR _), (4, bI _), (5, bI _), (6, bI _), (7, bI _), (8, bI _), (9, bI _), (11, bI _), (12, bI _)]) [1, 2, 3, 4, 5, 6, 7, 9, 0] rfl ?_
        exact t_X12_judge_b274 h
      · replace h := b_wp_f c56 h
        refine v_iconst ⟨by decide, by decide⟩ dX12_judge_270 ?_
        refine v_goto (tgt := 275) dX12_judge_271 (by decide) ?_
        refine v_sub (ls2 := [(0, bR _), (4, bI _), (5, bI _), (6, bI _), (7, bI _), (8, bI _), (9, bI _), (11, bI _), (12, bI _)]) [1, 2, 3, 4, 5, 6, 7, 9, 0] rfl ?_
        exact t_X12_judge_b275 h
theorem l_X12_judge_234 {l : Launch} {E : bE} {Q : (Int × bM) → Prop} {v4 : Int} {v5 : Int} {v6 : Int} {M : bM} {s : Int × Int × Int × Int × Int} (h : b_wp (b_loop (fun t => F_X12_judge_s234 v4 v5 v6 t.1 t.2.1 t.2.2.1 t.2.2.2.1 t.2.2.2.2 M) s) (X_X12_judge_234 l E Q v4 v5 v6 M)) : A_X12_judge_234 l E Q v4 v5 v6 M s := b_loop_wp (fun t h => t_X12_judge_s234 h) s h
noncomputable def F_X12_judge_b331 (v4 : Int) (v5 : Int) (v6 : Int) (v7 : Int) (v9 : Int) (v10 : Int) (M : bM) : Option ((Int × Int) ⊕ (Int)) :=
  if v10 = 0 then (b_g (b_i32 (v6 + 1)) (some (.inl (v5, (v6 + 1))))) else (b_bind (F_X12_isEnd v7 M) (fun x59 => if x59 = 0 then (b_g (b_i32 (v6 + 1)) (some (.inl (v5, (v6 + 1))))) else (if v5 = (-1) then (b_g (b_i32 (v6 + 1)) (some (.inl (v9, (v6 + 1))))) else (if v5 ≤ v9 then (b_g (b_i32 (v6 + 1)) (some (.inl (v5, (v6 + 1))))) else (b_g (b_i32 (v6 + 1)) (some (.inl (v9, (v6 + 1)))))))))
theorem t_X12_judge_b331 {l : Launch} {E : bE} {Q : (Int × bM) → Prop} {v4 : Int} {v5 : Int} {v6 : Int} {v7 : Int} {v9 : Int} {v10 : Int} {M : bM} (h : b_wp (F_X12_judge_b331 v4 v5 v6 v7 v9 v10 M) (Sum.elim (A_X12_judge_186 l E Q v4 M) (X_X12_judge_186 l E Q v4 M))) : V l E xX12_judge (0, 0) 331 [(0, bR 11), (4, bI v4), (5, bI v5), (6, bI v6), (7, bI v7), (9, bI v9), (10, bI v10)] [] M (b_pI Q) := by
  unfold F_X12_judge_b331 at h
  refine v_iload (i := 10) 6 rfl dX12_judge_331 ?_
  refine v_if_eq (tgt := 362) dX12_judge_333 (by decide) (fun c57 => ?_) (fun c57 => ?_)
  · replace h := b_wp_t c57 h
    obtain ⟨g58, h⟩ := b_wp_g h
    refine v_iincN (ls' := [(6, bI _), (0, bR _), (4, bI _), (5, bI _), (7, bI _), (9, bI _), (10, bI _)]) 3 rfl (by decide) g58 dX12_judge_362 rfl ?_
    refine v_goto (tgt := 186) dX12_judge_365 (by decide) ?_
    refine v_sub (ls2 := [(0, bR _), (4, bI _), (5, bI _), (6, bI _)]) [1, 2, 3, 0] rfl ?_
    exact h
  · replace h := b_wp_f c57 h
    refine v_aload_n (f := 0) 0 rfl dX12_judge_336 ?_
    refine v_iload (i := 7) 4 rfl dX12_judge_337 ?_
    refine v_cVIp (nA := 1) (As := [bI _]) (ix := 556) (cf_X12_isEnd (b_wp_b h)) rfl kd_11 rfl rfl wc_X12_isEnd wm_12_556 wi_X12_isEnd ws_X12_isEnd wn_12 ⟨by decide, by decide, by decide⟩ rfl ⟨by decide, by decide⟩ ⟨by decide, by decide⟩ (Nat.le_of_ble_eq_true rfl) dX12_judge_339 (fun x59 h => ?_)
    refine v_if_eq (tgt := 362) dX12_judge_342 (by decide) (fun c60 => ?_) (fun c60 => ?_)
    · replace h := b_wp_t c60 h
      obtain ⟨g61, h⟩ := b_wp_g h
      refine v_iincN (ls' := [(6, bI _), (0, bR _), (4, bI _), (5, bI _), (7, bI _), (9, bI _), (10, bI _)]) 3 rfl (by decide) g61 dX12_judge_362 rfl ?_
      refine v_goto (tgt := 186) dX12_judge_365 (by decide) ?_
      refine v_sub (ls2 := [(0, bR _), (4, bI _), (5, bI _), (6, bI _)]) [1, 2, 3, 0] rfl ?_
      exact h
    · replace h := b_wp_f c60 h
      refine v_iload (i := 5) 2 rfl dX12_judge_345 ?_
      refine v_iconst ⟨by decide, by decide⟩ dX12_judge_347 ?_
      refine v_icmp_eq (tgt := 358) dX12_judge_348 (by decide) (fun c62 => ?_) (fun c62 => ?_)
      · replace h := b_wp_t c62 h
        obtain ⟨g63, h⟩ := b_wp_g h
        refine v_iload (i := 9) 5 rfl dX12_judge_358 ?_
        refine v_istore (i := 5) (ls' := [(5, bI _), (0, bR _), (4, bI _), (6, bI _), (7, bI _), (9, bI _), (10, bI _)]) (by decide) dX12_judge_360 rfl ?_
        refine v_iincN (ls' := [(6, bI _), (5, bI _), (0, bR _), (4, bI _), (7, bI _), (9, bI _), (10, bI _)]) 3 rfl (by decide) g63 dX12_judge_362 rfl ?_
        refine v_goto (tgt := 186) dX12_judge_365 (by decide) ?_
        refine v_sub (ls2 := [(0, bR _), (4, bI _), (5, bI _), (6, bI _)]) [2, 3, 1, 0] rfl ?_
        exact h
      · replace h := b_wp_f c62 h
        refine v_iload (i := 9) 5 rfl dX12_judge_351 ?_
        refine v_iload (i := 5) 2 rfl dX12_judge_353 ?_
        refine v_icmp_ge (tgt := 362) dX12_judge_355 (by decide) (fun c64 => ?_) (fun c64 => ?_)
        · replace h := b_wp_t c64 h
          obtain ⟨g65, h⟩ := b_wp_g h
          refine v_iincN (ls' := [(6, bI _), (0, bR _), (4, bI _), (5, bI _), (7, bI _), (9, bI _), (10, bI _)]) 3 rfl (by decide) g65 dX12_judge_362 rfl ?_
          refine v_goto (tgt := 186) dX12_judge_365 (by decide) ?_
          refine v_sub (ls2 := [(0, bR _), (4, bI _), (5, bI _), (6, bI _)]) [1, 2, 3, 0] rfl ?_
          exact h
        · replace h := b_wp_f c64 h
          obtain ⟨g66, h⟩ := b_wp_g h
          refine v_iload (i := 9) 5 rfl dX12_judge_358 ?_
          refine v_istore (i := 5) (ls' := [(5, bI _), (0, bR _), (4, bI _), (6, bI _), (7, bI _), (9, bI _), (10, bI _)]) (by decide) dX12_judge_360 rfl ?_
          refine v_iincN (ls' := [(6, bI _), (5, bI _), (0, bR _), (4, bI _), (7, bI _), (9, bI _), (10, bI _)]) 3 rfl (by decide) g66 dX12_judge_362 rfl ?_
          refine v_goto (tgt := 186) dX12_judge_365 (by decide) ?_
          refine v_sub (ls2 := [(0, bR _), (4, bI _), (5, bI _), (6, bI _)]) [2, 3, 1, 0] rfl ?_
          exact h
noncomputable def F_X12_judge_s186 (v4 : Int) (v5 : Int) (v6 : Int) (M : bM) : Option ((Int × Int) ⊕ (Int)) :=
  if (M 11 20) ≤ v6 then (some (.inr (v5))) else (b_bind (F_X12_isRoot v6 M) (fun x34 => if x34 = 0 then (b_g (b_i32 (v6 + 1)) (some (.inl (v5, (v6 + 1))))) else (b_g (0 ≤ v6 ∧ v6 < 60) (b_let ((M 217 v6)) (fun y37 => b_g (0 ≤ v6 ∧ v6 < 60) (b_let ((M 218 v6)) (fun y39 => b_bind (b_loop (fun t => F_X12_judge_s234 v4 v5 v6 t.1 t.2.1 t.2.2.1 t.2.2.2.1 t.2.2.2.2 M) (y37, y39, 0, 1, 0)) (fun t => F_X12_judge_b331 v4 v5 v6 (t.1) (t.2.1) (t.2.2) M))))))))
theorem t_X12_judge_s186 {l : Launch} {E : bE} {Q : (Int × bM) → Prop} {v4 : Int} {v5 : Int} {v6 : Int} {M : bM} (h : b_wp (F_X12_judge_s186 v4 v5 v6 M) (Sum.elim (A_X12_judge_186 l E Q v4 M) (X_X12_judge_186 l E Q v4 M))) : V l E xX12_judge (0, 0) 186 [(0, bR 11), (4, bI v4), (5, bI v5), (6, bI v6)] [] M (b_pI Q) := by
  unfold F_X12_judge_s186 at h
  refine v_iload (i := 6) 3 rfl dX12_judge_186 ?_
  refine v_aload_n (f := 0) 0 rfl dX12_judge_188 ?_
  refine v_getI (kf := 20) (kz := 20) rfl kd_11 rfl ⟨by decide, by decide⟩ rfl wf_12_374 dX12_judge_189 ?_
  refine v_icmp_ge (tgt := 368) dX12_judge_192 (by decide) (fun c33 => ?_) (fun c33 => ?_)
  · replace h := b_wp_t c33 h
    refine v_sub (ls2 := [(5, bI _)]) [2] rfl ?_
    exact h
  · replace h := b_wp_f c33 h
    refine v_aload_n (f := 0) 0 rfl dX12_judge_195 ?_
    refine v_iload (i := 6) 3 rfl dX12_judge_196 ?_
    refine v_cVIp (nA := 1) (As := [bI _]) (ix := 562) (cf_X12_isRoot (b_wp_b h)) rfl kd_11 rfl rfl wc_X12_isRoot wm_12_562 wi_X12_isRoot ws_X12_isRoot wn_12 ⟨by decide, by decide, by decide⟩ rfl ⟨by decide, by decide⟩ ⟨by decide, by decide⟩ (Nat.le_of_ble_eq_true rfl) dX12_judge_198 (fun x34 h => ?_)
    refine v_if_ne (tgt := 207) dX12_judge_201 (by decide) (fun c35 => ?_) (fun c35 => ?_)
    · replace h := b_wp_f c35 h
      obtain ⟨g36, h⟩ := b_wp_g h
      refine v_aload_n (f := 0) 0 rfl dX12_judge_207 ?_
      refine v_getR (kf := 78) (kz := 78) rfl kd_11 rfl ⟨by decide, by decide⟩ rfl wf_12_185 dX12_judge_208 ?_
      refine v_iload (i := 6) 3 rfl dX12_judge_211 ?_
      refine v_iaload kd_217 g36 (by decide) dX12_judge_213 ?_
      replace h := b_wp_l h
      obtain ⟨g38, h⟩ := b_wp_g h
      refine v_istore (i := 7) (ls' := [(7, bI _), (0, bR _), (4, bI _), (5, bI _), (6, bI _)]) (by decide) dX12_judge_214 rfl ?_
      refine v_aload_n (f := 0) 1 rfl dX12_judge_216 ?_
      refine v_getR (kf := 79) (kz := 79) rfl kd_11 rfl ⟨by decide, by decide⟩ rfl wf_12_188 dX12_judge_217 ?_
      refine v_iload (i := 6) 4 rfl dX12_judge_220 ?_
      refine v_iaload kd_218 g38 (by decide) dX12_judge_222 ?_
      replace h := b_wp_l h
      refine v_istore (i := 8) (ls' := [(8, bI _), (7, bI _), (0, bR _), (4, bI _), (5, bI _), (6, bI _)]) (by decide) dX12_judge_223 rfl ?_
      refine v_iconst ⟨by decide, by decide⟩ dX12_judge_225 ?_
      refine v_istore (i := 9) (ls' := [(9, bI _), (8, bI _), (7, bI _), (0, bR _), (4, bI _), (5, bI _), (6, bI _)]) (by decide) dX12_judge_226 rfl ?_
      refine v_iconst ⟨by decide, by decide⟩ dX12_judge_228 ?_
      refine v_istore (i := 10) (ls' := [(10, bI _), (9, bI _), (8, bI _), (7, bI _), (0, bR _), (4, bI _), (5, bI _), (6, bI _)]) (by decide) dX12_judge_229 rfl ?_
      refine v_iconst ⟨by decide, by decide⟩ dX12_judge_231 ?_
      refine v_istore (i := 11) (ls' := [(11, bI _), (10, bI _), (9, bI _), (8, bI _), (7, bI _), (0, bR _), (4, bI _), (5, bI _), (6, bI _)]) (by decide) dX12_judge_232 rfl ?_
      refine v_sub (ls2 := [(0, bR _), (4, bI _), (5, bI _), (6, bI _), (7, bI _), (8, bI _), (9, bI _), (10, bI _), (11, bI _)]) [5, 6, 7, 8, 4, 3, 2, 1, 0] rfl ?_
      refine l_X12_judge_234 (b_wp_m (fun t h => ?_) (b_wp_b h))
      show V l E xX12_judge (0, 0) 331 [(0, bR 11), (4, bI _), (5, bI _), (6, bI _), (7, bI _), (9, bI _), (10, bI _)] [] _ (b_pI Q)
      exact t_X12_judge_b331 h
    · replace h := b_wp_t c35 h
      obtain ⟨g67, h⟩ := b_wp_g h
      refine v_goto (tgt := 362) dX12_judge_204 (by decide) ?_
      refine v_iincN (ls' := [(6, bI _), (0, bR _), (4, bI _), (5, bI _)]) 3 rfl (by decide) g67 dX12_judge_362 rfl ?_
      refine v_goto (tgt := 186) dX12_judge_365 (by decide) ?_
      refine v_sub (ls2 := [(0, bR _), (4, bI _), (5, bI _), (6, bI _)]) [1, 2, 3, 0] rfl ?_
      exact h
theorem l_X12_judge_186 {l : Launch} {E : bE} {Q : (Int × bM) → Prop} {v4 : Int} {M : bM} {s : Int × Int} (h : b_wp (b_loop (fun t => F_X12_judge_s186 v4 t.1 t.2 M) s) (X_X12_judge_186 l E Q v4 M)) : A_X12_judge_186 l E Q v4 M s := b_loop_wp (fun t h => t_X12_judge_s186 h) s h
noncomputable def F_X12_judge_b368 (v5 : Int) (M : bM) : Option (Int × bM) :=
  some (v5, M)
theorem t_X12_judge_b368 {l : Launch} {E : bE} {Q : (Int × bM) → Prop} {v5 : Int} {M : bM} (h : b_wp (F_X12_judge_b368 v5 M) (Q)) : V l E xX12_judge (0, 0) 368 [(5, bI v5)] [] M (b_pI Q) := by
  unfold F_X12_judge_b368 at h
  refine v_iload (i := 5) 0 rfl dX12_judge_368 ?_
  refine v_ireturn rfl dX12_judge_370 ⟨by decide, by decide⟩ ?_
  exact ⟨_, rfl, h⟩
noncomputable def F_X12_judge_b180 (v4 : Int) (M : bM) : Option (Int × bM) :=
  b_bind (b_loop (fun t => F_X12_judge_s186 v4 t.1 t.2 M) ((-1), 0)) (fun t => F_X12_judge_b368 t M)
theorem t_X12_judge_b180 {l : Launch} {E : bE} {Q : (Int × bM) → Prop} {v4 : Int} {M : bM} (h : b_wp (F_X12_judge_b180 v4 M) (Q)) : V l E xX12_judge (0, 0) 180 [(0, bR 11), (4, bI v4)] [] M (b_pI Q) := by
  unfold F_X12_judge_b180 at h
  refine v_iconst ⟨by decide, by decide⟩ dX12_judge_180 ?_
  refine v_istore (i := 5) (ls' := [(5, bI _), (0, bR _), (4, bI _)]) (by decide) dX12_judge_181 rfl ?_
  refine v_iconst ⟨by decide, by decide⟩ dX12_judge_183 ?_
  refine v_istore (i := 6) (ls' := [(6, bI _), (5, bI _), (0, bR _), (4, bI _)]) (by decide) dX12_judge_184 rfl ?_
  refine v_sub (ls2 := [(0, bR _), (4, bI _), (5, bI _), (6, bI _)]) [2, 3, 1, 0] rfl ?_
  refine l_X12_judge_186 (b_wp_m (fun t h => ?_) (b_wp_b h))
  show V l E xX12_judge (0, 0) 368 [(5, bI _)] [] _ (b_pI Q)
  exact t_X12_judge_b368 h
noncomputable def F_X12_judge_b68 (v1 : Int) (v2 : Int) (v3 : Int) (v4 : Int) (u1 : Int) (M : bM) : Option (Int × bM) :=
  b_g (u1 = 0 ∨ u1 = 1) (b_let (b_up M 11 80 u1) (fun M13 => b_let (b_up M13 11 81 v3) (fun M14 => b_g (0 ≤ v1 ∧ v1 < 60) (b_let (b_up M14 11 82 (M14 174 v1)) (fun M16 => b_let (b_up M16 11 83 v2) (fun M17 => b_bind (b_loop (fun t => F_X12_judge_s94 v4 t M17) (0)) (Sum.elim (fun t => F_X12_judge_b180 v4 M17) some)))))))
theorem t_X12_judge_b68 {l : Launch} {E : bE} {Q : (Int × bM) → Prop} {v1 : Int} {v2 : Int} {v3 : Int} {v4 : Int} {u1 : Int} {M : bM} (h : b_wp (F_X12_judge_b68 v1 v2 v3 v4 u1 M) (Q)) : V l E xX12_judge (0, 0) 68 [(0, bR 11), (1, bI v1), (2, bI v2), (3, bI v3), (4, bI v4)] [bI u1, bR 11] M (b_pI Q) := by
  unfold F_X12_judge_b68 at h
  obtain ⟨g12, h⟩ := b_wp_g h
  refine v_putZ (kf := 80) (kz := 80) rfl kd_11 rfl ⟨by decide, by decide⟩ rfl g12 wf_12_543 rfl rfl dX12_judge_68 ?_
  replace h := b_wp_l h
  refine v_aload_n (f := 0) 0 rfl dX12_judge_71 ?_
  refine v_iload_n (f := 3) 3 rfl dX12_judge_72 ?_
  refine v_putI (kf := 81) (kz := 81) rfl kd_11 rfl ⟨by decide, by decide⟩ rfl wf_12_547 rfl rfl dX12_judge_73 ?_
  replace h := b_wp_l h
  obtain ⟨g15, h⟩ := b_wp_g h
  refine v_aload_n (f := 0) 0 rfl dX12_judge_76 ?_
  refine v_aload_n (f := 0) 0 rfl dX12_judge_77 ?_
  refine v_getR (kf := 26) (kz := 26) rfl kd_11 rfl ⟨by decide, by decide⟩ rfl wf_12_51 dX12_judge_78 ?_
  refine v_iload_n (f := 1) 1 rfl dX12_judge_81 ?_
  refine v_laload kd_174 g15 (by decide) dX12_judge_82 ?_
  refine v_putJ (kf := 82) (kz := 82) rfl kd_11 rfl ⟨by decide, by decide⟩ rfl wf_12_540 rfl rfl dX12_judge_83 ?_
  replace h := b_wp_l h
  refine v_aload_n (f := 0) 0 rfl dX12_judge_86 ?_
  refine v_iload_n (f := 2) 2 rfl dX12_judge_87 ?_
  refine v_putI (kf := 83) (kz := 83) rfl kd_11 rfl ⟨by decide, by decide⟩ rfl wf_12_565 rfl rfl dX12_judge_88 ?_
  replace h := b_wp_l h
  refine v_iconst ⟨by decide, by decide⟩ dX12_judge_91 ?_
  refine v_istore (i := 5) (ls' := [(5, bI _), (0, bR _), (1, bI _), (2, bI _), (3, bI _), (4, bI _)]) (by decide) dX12_judge_92 rfl ?_
  refine v_sub (ls2 := [(0, bR _), (4, bI _), (5, bI _)]) [1, 5, 0] rfl ?_
  refine l_X12_judge_94 (b_wp_m (fun t h => ?_) (b_wp_b h))
  cases t with
  | inr o => exact h
  | inl t =>
    show V l E xX12_judge (0, 0) 180 [(0, bR 11), (4, bI _)] [] _ (b_pI Q)
    replace h := b_wp_inl h
    exact t_X12_judge_b180 h
noncomputable def F_X12_judge (v1 : Int) (v2 : Int) (v3 : Int) (M : bM) : Option (Int × bM) :=
  b_let (b_up M 11 1 0) (fun M1 => b_bind (F_X12_isLot v1 M1) (fun x2 => if x2 = 0 then (some ((-2), M1)) else (b_bind (F_X12_isPerson v2 M1) (fun x4 => if x4 = 0 then (some ((-2), M1)) else (b_bind (F_X12_isDay v3 M1) (fun x6 => if x6 = 0 then (some ((-2), M1)) else (if (M 11 1) ≤ 8 then (b_bind (F_X12_makeShown v3 M1) (fun M9 => b_bind (F_X12_ruleOn v3 8 M9) (fun x10 => if x10 = 1 then (F_X12_judge_b68 v1 v2 v3 (M 11 1) 1 M9) else (F_X12_judge_b68 v1 v2 v3 (M 11 1) 0 M9)))) else (some ((-1), M1)))))))))
theorem t_X12_judge {l : Launch} {E : bE} {Q : (Int × bM) → Prop} {v1 : Int} {v2 : Int} {v3 : Int} {M : bM} (h : b_wp (F_X12_judge v1 v2 v3 M) (Q)) : V l E xX12_judge (0, 0) 0 [(0, bR 11), (1, bI v1), (2, bI v2), (3, bI v3)] [] M (b_pI Q) := by
  unfold F_X12_judge at h
  refine v_aload_n (f := 0) 0 rfl dX12_judge_0 ?_
  refine v_getI (kf := 1) (kz := 1) rfl kd_11 rfl ⟨by decide, by decide⟩ rfl wf_12_283 dX12_judge_1 ?_
  refine v_istore (i := 4) (ls' := [(4, bI _), (0, bR _), (1, bI _), (2, bI _), (3, bI _)]) (by decide) dX12_judge_4 rfl ?_
  refine v_aload_n (f := 0) 1 rfl dX12_judge_6 ?_
  refine v_iconst ⟨by decide, by decide⟩ dX12_judge_7 ?_
  refine v_putI (kf := 1) (kz := 1) rfl kd_11 rfl ⟨by decide, by decide⟩ rfl wf_12_283 rfl rfl dX12_judge_8 ?_
  replace h := b_wp_l h
  refine v_aload_n (f := 0) 1 rfl dX12_judge_11 ?_
  refine v_iload_n (f := 1) 2 rfl dX12_judge_12 ?_
  refine v_cVIp (nA := 1) (As := [bI _]) (ix := 385) (cf_X12_isLot (b_wp_b h)) rfl kd_11 rfl rfl wc_X12_isLot wm_12_385 wi_X12_isLot ws_X12_isLot wn_12 ⟨by decide, by decide, by decide⟩ rfl ⟨by decide, by decide⟩ ⟨by decide, by decide⟩ (Nat.le_of_ble_eq_true rfl) dX12_judge_13 (fun x2 h => ?_)
  refine v_if_eq (tgt := 34) dX12_judge_16 (by decide) (fun c3 => ?_) (fun c3 => ?_)
  · replace h := b_wp_t c3 h
    refine v_bipush ⟨by decide, by decide⟩ (by decide) dX12_judge_34 ?_
    refine v_ireturn rfl dX12_judge_36 ⟨by decide, by decide⟩ ?_
    exact ⟨_, rfl, h⟩
  · replace h := b_wp_f c3 h
    refine v_aload_n (f := 0) 1 rfl dX12_judge_19 ?_
    refine v_iload_n (f := 2) 3 rfl dX12_judge_20 ?_
    refine v_cVIp (nA := 1) (As := [bI _]) (ix := 356) (cf_X12_isPerson (b_wp_b h)) rfl kd_11 rfl rfl wc_X12_isPerson wm_12_356 wi_X12_isPerson ws_X12_isPerson wn_12 ⟨by decide, by decide, by decide⟩ rfl ⟨by decide, by decide⟩ ⟨by decide, by decide⟩ (Nat.le_of_ble_eq_true rfl) dX12_judge_21 (fun x4 h => ?_)
    refine v_if_eq (tgt := 34) dX12_judge_24 (by decide) (fun c5 => ?_) (fun c5 => ?_)
    · replace h := b_wp_t c5 h
      refine v_bipush ⟨by decide, by decide⟩ (by decide) dX12_judge_34 ?_
      refine v_ireturn rfl dX12_judge_36 ⟨by decide, by decide⟩ ?_
      exact ⟨_, rfl, h⟩
    · replace h := b_wp_f c5 h
      refine v_iload_n (f := 3) 4 rfl dX12_judge_27 ?_
      refine v_cSIp (nA := 1) (As := [bI _]) (ix := 347) (cf_X12_isDay (b_wp_b h)) rfl wc_X12_isDay wm_12_347 wi_X12_isDay wn_12 ⟨by decide, by decide, by decide⟩ rfl ⟨by decide, by decide⟩ ⟨by decide, by decide⟩ (Nat.le_of_ble_eq_true rfl) dX12_judge_28 (fun x6 h => ?_)
      refine v_if_ne (tgt := 37) dX12_judge_31 (by decide) (fun c7 => ?_) (fun c7 => ?_)
      · replace h := b_wp_f c7 h
        refine v_iload (i := 4) 0 rfl dX12_judge_37 ?_
        refine v_bipush ⟨by decide, by decide⟩ (by decide) dX12_judge_39 ?_
        refine v_icmp_le (tgt := 46) dX12_judge_41 (by decide) (fun c8 => ?_) (fun c8 => ?_)
        · replace h := b_wp_t c8 h
          refine v_aload_n (f := 0) 1 rfl dX12_judge_46 ?_
          refine v_iload_n (f := 3) 4 rfl dX12_judge_47 ?_
          refine v_cVV (nA := 1) (As := [bI _]) (ix := 534) (cf_X12_makeShown (b_wp_b h)) rfl kd_11 rfl rfl wc_X12_makeShown wm_12_534 wi_X12_makeShown ws_X12_makeShown wn_12 ⟨by decide, by decide, by decide⟩ rfl ⟨by decide, by decide⟩ ⟨by decide, by decide⟩ (Nat.le_of_ble_eq_true rfl) dX12_judge_48 (fun M9 h => ?_)
          refine v_aload_n (f := 0) 1 rfl dX12_judge_51 ?_
          refine v_aload_n (f := 0) 1 rfl dX12_judge_52 ?_
          refine v_iload_n (f := 3) 4 rfl dX12_judge_53 ?_
          refine v_bipush ⟨by decide, by decide⟩ (by decide) dX12_judge_54 ?_
          refine v_cVIp (nA := 2) (As := [bI _, bI _]) (ix := 493) (cf_X12_ruleOn (b_wp_b h)) rfl kd_11 rfl rfl wc_X12_ruleOn wm_12_493 wi_X12_ruleOn ws_X12_ruleOn wn_12 ⟨by decide, by decide, by decide⟩ rfl ⟨by decide, by decide⟩ ⟨by decide, by decide⟩ (Nat.le_of_ble_eq_true rfl) dX12_judge_56 (fun x10 h => ?_)
          refine v_iconst ⟨by decide, by decide⟩ dX12_judge_59 ?_
          refine v_icmp_ne (tgt := 67) dX12_judge_60 (by decide) (fun c11 => ?_) (fun c11 => ?_)
          · replace h := b_wp_f c11 h
            refine v_iconst ⟨by decide, by decide⟩ dX12_judge_67 ?_
            refine v_sub (ls2 := [(0, bR _), (1, bI _), (2, bI _), (3, bI _), (4, bI _)]) [1, 2, 3, 4, 0] rfl ?_
            exact t_X12_judge_b68 h
          · replace h := b_wp_t c11 h
            refine v_iconst ⟨by decide, by decide⟩ dX12_judge_63 ?_
            refine v_goto (tgt := 68) dX12_judge_64 (by decide) ?_
            refine v_sub (ls2 := [(0, bR _), (1, bI _), (2, bI _), (3, bI _), (4, bI _)]) [1, 2, 3, 4, 0] rfl ?_
            exact t_X12_judge_b68 h
        · replace h := b_wp_f c8 h
          refine v_iconst ⟨by decide, by decide⟩ dX12_judge_44 ?_
          refine v_ireturn rfl dX12_judge_45 ⟨by decide, by decide⟩ ?_
          exact ⟨_, rfl, h⟩
      · replace h := b_wp_t c7 h
        refine v_bipush ⟨by decide, by decide⟩ (by decide) dX12_judge_34 ?_
        refine v_ireturn rfl dX12_judge_36 ⟨by decide, by decide⟩ ?_
        exact ⟨_, rfl, h⟩
theorem cf_X12_judge {l : Launch} {E : bE} {M : bM} {v1 : Int} {v2 : Int} {v3 : Int} {Q : (Int × bM) → Prop} (h : b_wp (F_X12_judge v1 v2 v3 M) Q) : b_C l E xX12_judge yX12_judge [bR 11, bI v1, bI v2, bI v3] M (b_pI Q) := b_met (by decide) ⟨rfl, rfl⟩ (Nat.le_of_ble_eq_true rfl) (fun _ _ => t_X12_judge h)
abbrev xX12_heldOf : bX := ("BurntHallModel", prog_14_method_106_code, 10, (Option.some Jvm.ClassFile.FieldType.int), b_rm 4 0 0, 0, "heldOf")
abbrev yX12_heldOf : MethodName := ⟨"BurntHallModel", "heldOf", "(IIII)I"⟩
theorem dX12_heldOf_0 : decode prog_14_method_106_code 0 = .ok (.iconst 0, 1) := by decide +kernel
theorem dX12_heldOf_1 : decode prog_14_method_106_code 1 = .ok (.istore 5, 2) := by decide +kernel
theorem dX12_heldOf_3 : decode prog_14_method_106_code 3 = .ok (.aload_n 0, 1) := by decide +kernel
theorem dX12_heldOf_4 : decode prog_14_method_106_code 4 = .ok (.iload 4, 2) := by decide +kernel
theorem dX12_heldOf_6 : decode prog_14_method_106_code 6 = .ok (.invokevirtual 367, 3) := by decide +kernel
theorem dX12_heldOf_9 : decode prog_14_method_106_code 9 = .ok (.iload_n 3, 1) := by decide +kernel
theorem dX12_heldOf_10 : decode prog_14_method_106_code 10 = .ok (.istore 6, 2) := by decide +kernel
theorem dX12_heldOf_12 : decode prog_14_method_106_code 12 = .ok (.iload 6, 2) := by decide +kernel
theorem dX12_heldOf_14 : decode prog_14_method_106_code 14 = .ok (.ifCond .lt 211, 3) := by decide +kernel
theorem dX12_heldOf_17 : decode prog_14_method_106_code 17 = .ok (.iconst 0, 1) := by decide +kernel
theorem dX12_heldOf_18 : decode prog_14_method_106_code 18 = .ok (.istore 7, 2) := by decide +kernel
theorem dX12_heldOf_20 : decode prog_14_method_106_code 20 = .ok (.iconst 0, 1) := by decide +kernel
theorem dX12_heldOf_21 : decode prog_14_method_106_code 21 = .ok (.istore 8, 2) := by decide +kernel
theorem dX12_heldOf_23 : decode prog_14_method_106_code 23 = .ok (.iload 8, 2) := by decide +kernel
theorem dX12_heldOf_25 : decode prog_14_method_106_code 25 = .ok (.aload_n 0, 1) := by decide +kernel
theorem dX12_heldOf_26 : decode prog_14_method_106_code 26 = .ok (.getfield 502, 3) := by decide +kernel
theorem dX12_heldOf_29 : decode prog_14_method_106_code 29 = .ok (.if_icmp .ge 179, 3) := by decide +kernel
theorem dX12_heldOf_32 : decode prog_14_method_106_code 32 = .ok (.iload 7, 2) := by decide +kernel
theorem dX12_heldOf_34 : decode prog_14_method_106_code 34 = .ok (.ifCond .ne 174, 3) := by decide +kernel
theorem dX12_heldOf_37 : decode prog_14_method_106_code 37 = .ok (.aload_n 0, 1) := by decide +kernel
theorem dX12_heldOf_38 : decode prog_14_method_106_code 38 = .ok (.getfield 121, 3) := by decide +kernel
theorem dX12_heldOf_41 : decode prog_14_method_106_code 41 = .ok (.iconst 3, 1) := by decide +kernel
theorem dX12_heldOf_42 : decode prog_14_method_106_code 42 = .ok (.iload 8, 2) := by decide +kernel
theorem dX12_heldOf_44 : decode prog_14_method_106_code 44 = .ok (.imul, 1) := by decide +kernel
theorem dX12_heldOf_45 : decode prog_14_method_106_code 45 = .ok (.iconst 2, 1) := by decide +kernel
theorem dX12_heldOf_46 : decode prog_14_method_106_code 46 = .ok (.iadd, 1) := by decide +kernel
theorem dX12_heldOf_47 : decode prog_14_method_106_code 47 = .ok (.iaload, 1) := by decide +kernel
theorem dX12_heldOf_48 : decode prog_14_method_106_code 48 = .ok (.istore 9, 2) := by decide +kernel
theorem dX12_heldOf_50 : decode prog_14_method_106_code 50 = .ok (.aload_n 0, 1) := by decide +kernel
theorem dX12_heldOf_51 : decode prog_14_method_106_code 51 = .ok (.getfield 115, 3) := by decide +kernel
theorem dX12_heldOf_54 : decode prog_14_method_106_code 54 = .ok (.iload 8, 2) := by decide +kernel
theorem dX12_heldOf_56 : decode prog_14_method_106_code 56 = .ok (.iaload, 1) := by decide +kernel
theorem dX12_heldOf_57 : decode prog_14_method_106_code 57 = .ok (.iconst 4, 1) := by decide +kernel
theorem dX12_heldOf_58 : decode prog_14_method_106_code 58 = .ok (.if_icmp .ne 141, 3) := by decide +kernel
theorem dX12_heldOf_61 : decode prog_14_method_106_code 61 = .ok (.aload_n 0, 1) := by decide +kernel
theorem dX12_heldOf_62 : decode prog_14_method_106_code 62 = .ok (.getfield 130, 3) := by decide +kernel
theorem dX12_heldOf_65 : decode prog_14_method_106_code 65 = .ok (.iload 8, 2) := by decide +kernel
theorem dX12_heldOf_67 : decode prog_14_method_106_code 67 = .ok (.iaload, 1) := by decide +kernel
theorem dX12_heldOf_68 : decode prog_14_method_106_code 68 = .ok (.iload 4, 2) := by decide +kernel
theorem dX12_heldOf_70 : decode prog_14_method_106_code 70 = .ok (.if_icmp .gt 129, 3) := by decide +kernel
theorem dX12_heldOf_73 : decode prog_14_method_106_code 73 = .ok (.iload 9, 2) := by decide +kernel
theorem dX12_heldOf_75 : decode prog_14_method_106_code 75 = .ok (.iconst (-1), 1) := by decide +kernel
theorem dX12_heldOf_76 : decode prog_14_method_106_code 76 = .ok (.if_icmp .eq 123, 3) := by decide +kernel
theorem dX12_heldOf_79 : decode prog_14_method_106_code 79 = .ok (.aload_n 0, 1) := by decide +kernel
theorem dX12_heldOf_80 : decode prog_14_method_106_code 80 = .ok (.getfield 51, 3) := by decide +kernel
theorem dX12_heldOf_83 : decode prog_14_method_106_code 83 = .ok (.iload_n 1, 1) := by decide +kernel
theorem dX12_heldOf_84 : decode prog_14_method_106_code 84 = .ok (.laload, 1) := by decide +kernel
theorem dX12_heldOf_85 : decode prog_14_method_106_code 85 = .ok (.iload 9, 2) := by decide +kernel
theorem dX12_heldOf_87 : decode prog_14_method_106_code 87 = .ok (.lshr, 1) := by decide +kernel
theorem dX12_heldOf_88 : decode prog_14_method_106_code 88 = .ok (.lconst 1, 1) := by decide +kernel
theorem dX12_heldOf_89 : decode prog_14_method_106_code 89 = .ok (.land, 1) := by decide +kernel
theorem dX12_heldOf_90 : decode prog_14_method_106_code 90 = .ok (.lconst 1, 1) := by decide +kernel
theorem dX12_heldOf_91 : decode prog_14_method_106_code 91 = .ok (.lcmp, 1) := by decide +kernel
theorem dX12_heldOf_92 : decode prog_14_method_106_code 92 = .ok (.ifCond .ne 107, 3) := by decide +kernel
theorem dX12_heldOf_95 : decode prog_14_method_106_code 95 = .ok (.aload_n 0, 1) := by decide +kernel
theorem dX12_heldOf_96 : decode prog_14_method_106_code 96 = .ok (.getfield 121, 3) := by decide +kernel
theorem dX12_heldOf_99 : decode prog_14_method_106_code 99 = .ok (.iconst 3, 1) := by decide +kernel
theorem dX12_heldOf_100 : decode prog_14_method_106_code 100 = .ok (.iload 8, 2) := by decide +kernel
theorem dX12_heldOf_102 : decode prog_14_method_106_code 102 = .ok (.imul, 1) := by decide +kernel
theorem dX12_heldOf_103 : decode prog_14_method_106_code 103 = .ok (.iconst 1, 1) := by decide +kernel
theorem dX12_heldOf_104 : decode prog_14_method_106_code 104 = .ok (.iadd, 1) := by decide +kernel
theorem dX12_heldOf_105 : decode prog_14_method_106_code 105 = .ok (.iaload, 1) := by decide +kernel
theorem dX12_heldOf_106 : decode prog_14_method_106_code 106 = .ok (.iconst (-1), 1) := by decide +kernel
theorem dX12_heldOf_107 : decode prog_14_method_106_code 107 = .ok (.if_icmp .eq 92, 3) := by decide +kernel
theorem dX12_heldOf_110 : decode prog_14_method_106_code 110 = .ok (.aload_n 0, 1) := by decide +kernel
theorem dX12_heldOf_111 : decode prog_14_method_106_code 111 = .ok (.getfield 33, 3) := by decide +kernel
theorem dX12_heldOf_114 : decode prog_14_method_106_code 114 = .ok (.aload_n 0, 1) := by decide +kernel
theorem dX12_heldOf_115 : decode prog_14_method_106_code 115 = .ok (.getfield 121, 3) := by decide +kernel
theorem dX12_heldOf_118 : decode prog_14_method_106_code 118 = .ok (.iconst 3, 1) := by decide +kernel
theorem dX12_heldOf_119 : decode prog_14_method_106_code 119 = .ok (.iload 8, 2) := by decide +kernel
theorem dX12_heldOf_121 : decode prog_14_method_106_code 121 = .ok (.imul, 1) := by decide +kernel
theorem dX12_heldOf_122 : decode prog_14_method_106_code 122 = .ok (.iconst 1, 1) := by decide +kernel
theorem dX12_heldOf_123 : decode prog_14_method_106_code 123 = .ok (.iadd, 1) := by decide +kernel
theorem dX12_heldOf_124 : decode prog_14_method_106_code 124 = .ok (.iaload, 1) := by decide +kernel
theorem dX12_heldOf_125 : decode prog_14_method_106_code 125 = .ok (.iaload, 1) := by decide +kernel
theorem dX12_heldOf_126 : decode prog_14_method_106_code 126 = .ok (.aload_n 0, 1) := by decide +kernel
theorem dX12_heldOf_127 : decode prog_14_method_106_code 127 = .ok (.getfield 33, 3) := by decide +kernel
theorem dX12_heldOf_130 : decode prog_14_method_106_code 130 = .ok (.iload_n 2, 1) := by decide +kernel
theorem dX12_heldOf_131 : decode prog_14_method_106_code 131 = .ok (.iaload, 1) := by decide +kernel
theorem dX12_heldOf_132 : decode prog_14_method_106_code 132 = .ok (.if_icmp .ne 67, 3) := by decide +kernel
theorem dX12_heldOf_135 : decode prog_14_method_106_code 135 = .ok (.aload_n 0, 1) := by decide +kernel
theorem dX12_heldOf_136 : decode prog_14_method_106_code 136 = .ok (.getfield 124, 3) := by decide +kernel
theorem dX12_heldOf_139 : decode prog_14_method_106_code 139 = .ok (.iload 8, 2) := by decide +kernel
theorem dX12_heldOf_141 : decode prog_14_method_106_code 141 = .ok (.iaload, 1) := by decide +kernel
theorem dX12_heldOf_142 : decode prog_14_method_106_code 142 = .ok (.sipush 365, 3) := by decide +kernel
theorem dX12_heldOf_145 : decode prog_14_method_106_code 145 = .ok (.iload 6, 2) := by decide +kernel
theorem dX12_heldOf_147 : decode prog_14_method_106_code 147 = .ok (.imul, 1) := by decide +kernel
theorem dX12_heldOf_148 : decode prog_14_method_106_code 148 = .ok (.sipush 365, 3) := by decide +kernel
theorem dX12_heldOf_151 : decode prog_14_method_106_code 151 = .ok (.iadd, 1) := by decide +kernel
theorem dX12_heldOf_152 : decode prog_14_method_106_code 152 = .ok (.iconst 1, 1) := by decide +kernel
theorem dX12_heldOf_153 : decode prog_14_method_106_code 153 = .ok (.isub, 1) := by decide +kernel
theorem dX12_heldOf_154 : decode prog_14_method_106_code 154 = .ok (.if_icmp .gt 45, 3) := by decide +kernel
theorem dX12_heldOf_157 : decode prog_14_method_106_code 157 = .ok (.aload_n 0, 1) := by decide +kernel
theorem dX12_heldOf_158 : decode prog_14_method_106_code 158 = .ok (.getfield 127, 3) := by decide +kernel
theorem dX12_heldOf_161 : decode prog_14_method_106_code 161 = .ok (.iload 8, 2) := by decide +kernel
theorem dX12_heldOf_163 : decode prog_14_method_106_code 163 = .ok (.iaload, 1) := by decide +kernel
theorem dX12_heldOf_164 : decode prog_14_method_106_code 164 = .ok (.sipush 365, 3) := by decide +kernel
theorem dX12_heldOf_167 : decode prog_14_method_106_code 167 = .ok (.iload 6, 2) := by decide +kernel
theorem dX12_heldOf_169 : decode prog_14_method_106_code 169 = .ok (.imul, 1) := by decide +kernel
theorem dX12_heldOf_170 : decode prog_14_method_106_code 170 = .ok (.if_icmp .lt 29, 3) := by decide +kernel
theorem dX12_heldOf_173 : decode prog_14_method_106_code 173 = .ok (.aload_n 0, 1) := by decide +kernel
theorem dX12_heldOf_174 : decode prog_14_method_106_code 174 = .ok (.iload 8, 2) := by decide +kernel
theorem dX12_heldOf_176 : decode prog_14_method_106_code 176 = .ok (.iload 4, 2) := by decide +kernel
theorem dX12_heldOf_178 : decode prog_14_method_106_code 178 = .ok (.invokevirtual 514, 3) := by decide +kernel
theorem dX12_heldOf_181 : decode prog_14_method_106_code 181 = .ok (.ifCond .le 18, 3) := by decide +kernel
theorem dX12_heldOf_184 : decode prog_14_method_106_code 184 = .ok (.aload_n 0, 1) := by decide +kernel
theorem dX12_heldOf_185 : decode prog_14_method_106_code 185 = .ok (.iload 8, 2) := by decide +kernel
theorem dX12_heldOf_187 : decode prog_14_method_106_code 187 = .ok (.iload 4, 2) := by decide +kernel
theorem dX12_heldOf_189 : decode prog_14_method_106_code 189 = .ok (.invokevirtual 520, 3) := by decide +kernel
theorem dX12_heldOf_192 : decode prog_14_method_106_code 192 = .ok (.ifCond .ne 7, 3) := by decide +kernel
theorem dX12_heldOf_195 : decode prog_14_method_106_code 195 = .ok (.iconst 1, 1) := by decide +kernel
theorem dX12_heldOf_196 : decode prog_14_method_106_code 196 = .ok (.goto 4, 3) := by decide +kernel
theorem dX12_heldOf_199 : decode prog_14_method_106_code 199 = .ok (.iconst 0, 1) := by decide +kernel
theorem dX12_heldOf_200 : decode prog_14_method_106_code 200 = .ok (.istore 7, 2) := by decide +kernel
theorem dX12_heldOf_202 : decode prog_14_method_106_code 202 = .ok (.iinc 8 1, 3) := by decide +kernel
theorem dX12_heldOf_205 : decode prog_14_method_106_code 205 = .ok (.goto (-182), 3) := by decide +kernel
theorem dX12_heldOf_208 : decode prog_14_method_106_code 208 = .ok (.iload 7, 2) := by decide +kernel
theorem dX12_heldOf_210 : decode prog_14_method_106_code 210 = .ok (.ifCond .ne 6, 3) := by decide +kernel
theorem dX12_heldOf_213 : decode prog_14_method_106_code 213 = .ok (.iload 5, 2) := by decide +kernel
theorem dX12_heldOf_215 : decode prog_14_method_106_code 215 = .ok (.ireturn, 1) := by decide +kernel
theorem dX12_heldOf_216 : decode prog_14_method_106_code 216 = .ok (.iinc 5 1, 3) := by decide +kernel
theorem dX12_heldOf_219 : decode prog_14_method_106_code 219 = .ok (.iinc 6 (-1), 3) := by decide +kernel
theorem dX12_heldOf_222 : decode prog_14_method_106_code 222 = .ok (.goto (-210), 3) := by decide +kernel
theorem dX12_heldOf_225 : decode prog_14_method_106_code 225 = .ok (.iload 5, 2) := by decide +kernel
theorem dX12_heldOf_227 : decode prog_14_method_106_code 227 = .ok (.ireturn, 1) := by decide +kernel
abbrev A_X12_heldOf_12 (l : Launch) (E : bE) (Q : (Int × bM) → Prop) (v1 : Int) (v2 : Int) (v4 : Int) : (Int × Int × bM) → Prop := (fun t : Int × Int × bM => V l E xX12_heldOf (0, 0) 12 [(0, bR 11), (1, bI v1), (2, bI v2), (4, bI v4), (5, bI (t.1)), (6, bI (t.2.1))] [] t.2.2 (b_pI Q))
abbrev X_X12_heldOf_12 (l : Launch) (E : bE) (Q : (Int × bM) → Prop) (v1 : Int) (v2 : Int) (v4 : Int) : ((Int × bM) ⊕ (Int × bM)) → Prop := (Sum.elim (fun t : Int × bM => V l E xX12_heldOf (0, 0) 225 [(5, bI (t.1))] [] t.2 (b_pI Q)) Q)
abbrev A_X12_heldOf_23 (l : Launch) (E : bE) (Q : (Int × bM) → Prop) (v1 : Int) (v2 : Int) (v4 : Int) (v5 : Int) (v6 : Int) : (Int × Int × bM) → Prop := (fun t : Int × Int × bM => V l E xX12_heldOf (0, 0) 23 [(0, bR 11), (1, bI v1), (2, bI v2), (4, bI v4), (5, bI v5), (6, bI v6), (7, bI (t.1)), (8, bI (t.2.1))] [] t.2.2 (b_pI Q))
abbrev X_X12_heldOf_23 (l : Launch) (E : bE) (Q : (Int × bM) → Prop) (v1 : Int) (v2 : Int) (v4 : Int) (v5 : Int) (v6 : Int) : (Int × bM) → Prop := (fun t : Int × bM => V l E xX12_heldOf (0, 0) 208 [(0, bR 11), (1, bI v1), (2, bI v2), (4, bI v4), (5, bI v5), (6, bI v6), (7, bI (t.1))] [] t.2 (b_pI Q))
noncomputable def F_X12_heldOf_s23 (v1 : Int) (v2 : Int) (v4 : Int) (v5 : Int) (v6 : Int) (v7 : Int) (v8 : Int) (M : bM) : Option ((Int × Int × bM) ⊕ (Int × bM)) :=
  if (M 11 53) ≤ v8 then (some (.inr (v7, M))) else (if v7 = 0 then (b_g ((b_i32 (3 * v8)) ∧ (b_i32 ((3 * v8) + 2)) ∧ (0 ≤ ((3 * v8) + 2) ∧ ((3 * v8) + 2) < 360)) (b_let ((M 196 ((3 * v8) + 2))) (fun y8 => b_g (0 ≤ v8 ∧ v8 < 120) (if (M 194 v8) = 4 then (b_g (0 ≤ v8 ∧ v8 < 120) (if v4 < (M 199 v8) then (b_g (b_i32 (v8 + 1)) (some (.inl (0, (v8 + 1), M)))) else (if y8 = (-1) then (b_g (b_i32 (v8 + 1)) (some (.inl (0, (v8 + 1), M)))) else (b_g (0 ≤ v1 ∧ v1 < 60) (if (j_cmp (j_and (j_shr (M 174 v1) y8) 1) 1) = 0 then (b_g ((b_i32 (3 * v8)) ∧ (b_i32 ((3 * v8) + 1)) ∧ (0 ≤ ((3 * v8) + 1) ∧ ((3 * v8) + 1) < 360)) (if (M 196 ((3 * v8) + 1)) = (-1) then (b_g (b_i32 (v8 + 1)) (some (.inl (0, (v8 + 1), M)))) else (b_g ((b_i32 (3 * v8)) ∧ (b_i32 ((3 * v8) + 1)) ∧ (0 ≤ ((3 * v8) + 1) ∧ ((3 * v8) + 1) < 360) ∧ (0 ≤ (M 196 ((3 * v8) + 1)) ∧ (M 196 ((3 * v8) + 1)) < 80) ∧ (0 ≤ v2 ∧ v2 < 80)) (if (M 168 (M 196 ((3 * v8) + 1))) = (M 168 v2) then (b_g ((0 ≤ v8 ∧ v8 < 120) ∧ (b_i32 (365 * v6)) ∧ (b_i32 ((365 * v6) + 365)) ∧ (b_i32 (((365 * v6) + 365) - 1))) (if (((365 * v6) + 365) - 1) < (M 197 v8) then (b_g (b_i32 (v8 + 1)) (some (.inl (0, (v8 + 1), M)))) else (b_g ((0 ≤ v8 ∧ v8 < 120) ∧ (b_i32 (365 * v6))) (if (M 198 v8) < (365 * v6) then (b_g (b_i32 (v8 + 1)) (some (.inl (0, (v8 + 1), M)))) else (b_bind (F_X12_weightOf v8 v4 M) (fun t => b_two t (fun x42 M43 => if x42 ≤ 0 then (b_g (b_i32 (v8 + 1)) (some (.inl (0, (v8 + 1), M43)))) else (b_bind (F_X12_cantOf v8 v4 M43) (fun x46 => if x46 = 0 then (b_g (b_i32 (v8 + 1)) (some (.inl (1, (v8 + 1), M43)))) else (b_g (b_i32 (v8 + 1)) (some (.inl (0, (v8 + 1), M43))))))))))))) else (b_g (b_i32 (v8 + 1)) (some (.inl (0, (v8 + 1), M)))))))) else (b_g (b_i32 (v8 + 1)) (some (.inl (0, (v8 + 1), M))))))))) else (b_g (b_i32 (v8 + 1)) (some (.inl (0, (v8 + 1), M)))))))) else (some (.inr (v7, M))))
theorem t_X12_heldOf_s23 {l : Launch} {E : bE} {Q : (Int × bM) → Prop} {v1 : Int} {v2 : Int} {v4 : Int} {v5 : Int} {v6 : Int} {v7 : Int} {v8 : Int} {M : bM} (h : b_wp (F_X12_heldOf_s23 v1 v2 v4 v5 v6 v7 v8 M) (Sum.elim (A_X12_heldOf_23 l E Q v1 v2 v4 v5 v6) (X_X12_heldOf_23 l E Q v1 v2 v4 v5 v6))) : V l E xX12_heldOf (0, 0) 23 [(0, bR 11), (1, bI v1), (2, bI v2), (4, bI v4), (5, bI v5), (6, bI v6), (7, bI v7), (8, bI v8)] [] M (b_pI Q) := by
  unfold F_X12_heldOf_s23 at h
  refine v_iload (i := 8) 7 rfl dX12_heldOf_23 ?_
  refine v_aload_n (f := 0) 0 rfl dX12_heldOf_25 ?_
  refine v_getI (kf := 53) (kz := 53) rfl kd_11 rfl ⟨by decide, by decide⟩ rfl wf_12_502 dX12_heldOf_26 ?_
  refine v_icmp_ge (tgt := 208) dX12_heldOf_29 (by decide) (fun c3 => ?_) (fun c3 => ?_)
  · replace h := b_wp_t c3 h
    refine v_sub (ls2 := [(0, bR _), (1, bI _), (2, bI _), (4, bI _), (5, bI _), (6, bI _), (7, bI _)]) [0, 1, 2, 3, 4, 5, 6] rfl ?_
    exact h
  · replace h := b_wp_f c3 h
    refine v_iload (i := 7) 6 rfl dX12_heldOf_32 ?_
    refine v_if_ne (tgt := 208) dX12_heldOf_34 (by decide) (fun c4 => ?_) (fun c4 => ?_)
    · replace h := b_wp_f c4 h
      refine v_sub (ls2 := [(0, bR _), (1, bI _), (2, bI _), (4, bI _), (5, bI _), (6, bI _), (7, bI _)]) [0, 1, 2, 3, 4, 5, 6] rfl ?_
      exact h
    · replace h := b_wp_t c4 h
      obtain ⟨⟨g5, g6, g7⟩, h⟩ := b_wp_g h
      refine v_aload_n (f := 0) 0 rfl dX12_heldOf_37 ?_
      refine v_getR (kf := 57) (kz := 57) rfl kd_11 rfl ⟨by decide, by decide⟩ rfl wf_12_121 dX12_heldOf_38 ?_
      refine v_iconst ⟨by decide, by decide⟩ dX12_heldOf_41 ?_
      refine v_iload (i := 8) 7 rfl dX12_heldOf_42 ?_
      refine v_imulN g5 dX12_heldOf_44 ?_
      refine v_iconst ⟨by decide, by decide⟩ dX12_heldOf_45 ?_
      refine v_iaddN g6 dX12_heldOf_46 ?_
      refine v_iaload kd_196 g7 (by decide) dX12_heldOf_47 ?_
      replace h := b_wp_l h
      obtain ⟨g9, h⟩ := b_wp_g h
      refine v_istore (i := 9) (ls' := [(9, bI _), (0, bR _), (1, bI _), (2, bI _), (4, bI _), (5, bI _), (6, bI _), (7, bI _), (8, bI _)]) (by decide) dX12_heldOf_48 rfl ?_
      refine v_aload_n (f := 0) 1 rfl dX12_heldOf_50 ?_
      refine v_getR (kf := 55) (kz := 55) rfl kd_11 rfl ⟨by decide, by decide⟩ rfl wf_12_115 dX12_heldOf_51 ?_
      refine v_iload (i := 8) 8 rfl dX12_heldOf_54 ?_
      refine v_iaload kd_194 g9 (by decide) dX12_heldOf_56 ?_
      refine v_iconst ⟨by decide, by decide⟩ dX12_heldOf_57 ?_
      refine v_icmp_ne (tgt := 199) dX12_heldOf_58 (by decide) (fun c10 => ?_) (fun c10 => ?_)
      · replace h := b_wp_f c10 h
        obtain ⟨g11, h⟩ := b_wp_g h
        refine v_iconst ⟨by decide, by decide⟩ dX12_heldOf_199 ?_
        refine v_istore (i := 7) (ls' := [(7, bI _), (9, bI _), (0, bR _), (1, bI _), (2, bI _), (4, bI _), (5, bI _), (6, bI _), (8, bI _)]) (by decide) dX12_heldOf_200 rfl ?_
        refine v_iincN (ls' := [(8, bI _), (7, bI _), (9, bI _), (0, bR _), (1, bI _), (2, bI _), (4, bI _), (5, bI _), (6, bI _)]) 8 rfl (by decide) g11 dX12_heldOf_202 rfl ?_
        refine v_goto (tgt := 23) dX12_heldOf_205 (by decide) ?_
        refine v_sub (ls2 := [(0, bR _), (1, bI _), (2, bI _), (4, bI _), (5, bI _), (6, bI _), (7, bI _), (8, bI _)]) [3, 4, 5, 6, 7, 8, 1, 0] rfl ?_
        exact h
      · replace h := b_wp_t c10 h
        obtain ⟨g12, h⟩ := b_wp_g h
        refine v_aload_n (f := 0) 1 rfl dX12_heldOf_61 ?_
        refine v_getR (kf := 60) (kz := 60) rfl kd_11 rfl ⟨by decide, by decide⟩ rfl wf_12_130 dX12_heldOf_62 ?_
        refine v_iload (i := 8) 8 rfl dX12_heldOf_65 ?_
        refine v_iaload kd_199 g12 (by decide) dX12_heldOf_67 ?_
        refine v_iload (i := 4) 4 rfl dX12_heldOf_68 ?_
        refine v_icmp_gt (tgt := 199) dX12_heldOf_70 (by decide) (fun c13 => ?_) (fun c13 => ?_)
        · replace h := b_wp_t c13 h
          obtain ⟨g14, h⟩ := b_wp_g h
          refine v_iconst ⟨by decide, by decide⟩ dX12_heldOf_199 ?_
          refine v_istore (i := 7) (ls' := [(7, bI _), (9, bI _), (0, bR _), (1, bI _), (2, bI _), (4, bI _), (5, bI _), (6, bI _), (8, bI _)]) (by decide) dX12_heldOf_200 rfl ?_
          refine v_iincN (ls' := [(8, bI _), (7, bI _), (9, bI _), (0, bR _), (1, bI _), (2, bI _), (4, bI _), (5, bI _), (6, bI _)]) 8 rfl (by decide) g14 dX12_heldOf_202 rfl ?_
          refine v_goto (tgt := 23) dX12_heldOf_205 (by decide) ?_
          refine v_sub (ls2 := [(0, bR _), (1, bI _), (2, bI _), (4, bI _), (5, bI _), (6, bI _), (7, bI _), (8, bI _)]) [3, 4, 5, 6, 7, 8, 1, 0] rfl ?_
          exact h
        · replace h := b_wp_f c13 h
          refine v_iload (i := 9) 0 rfl dX12_heldOf_73 ?_
          refine v_iconst ⟨by decide, by decide⟩ dX12_heldOf_75 ?_
          refine v_icmp_eq (tgt := 199) dX12_heldOf_76 (by decide) (fun c15 => ?_) (fun c15 => ?_)
          · replace h := b_wp_t c15 h
            obtain ⟨g16, h⟩ := b_wp_g h
            refine v_iconst ⟨by decide, by decide⟩ dX12_heldOf_199 ?_
            refine v_istore (i := 7) (ls' := [(7, bI _), (9, bI _), (0, bR _), (1, bI _), (2, bI _), (4, bI _), (5, bI _), (6, bI _), (8, bI _)]) (by decide) dX12_heldOf_200 rfl ?_
            refine v_iincN (ls' := [(8, bI _), (7, bI _), (9, bI _), (0, bR _), (1, bI _), (2, bI _), (4, bI _), (5, bI _), (6, bI _)]) 8 rfl (by decide) g16 dX12_heldOf_202 rfl ?_
            refine v_goto (tgt := 23) dX12_heldOf_205 (by decide) ?_
            refine v_sub (ls2 := [(0, bR _), (1, bI _), (2, bI _), (4, bI _), (5, bI _), (6, bI _), (7, bI _), (8, bI _)]) [3, 4, 5, 6, 7, 8, 1, 0] rfl ?_
            exact h
          · replace h := b_wp_f c15 h
            obtain ⟨g17, h⟩ := b_wp_g h
            refine v_aload_n (f := 0) 1 rfl dX12_heldOf_79 ?_
            refine v_getR (kf := 26) (kz := 26) rfl kd_11 rfl ⟨by decide, by decide⟩ rfl wf_12_51 dX12_heldOf_80 ?_
            refine v_iload_n (f := 1) 2 rfl dX12_heldOf_83 ?_
            refine v_laload kd_174 g17 (by decide) dX12_heldOf_84 ?_
            refine v_iload (i := 9) 0 rfl dX12_heldOf_85 ?_
            refine v_lshr (v := j_shr _ _) rfl dX12_heldOf_87 ?_
            refine v_lconst1 dX12_heldOf_88 ?_
            refine v_land (v := j_and _ _) rfl dX12_heldOf_89 ?_
            refine v_lconst1 dX12_heldOf_90 ?_
            refine v_lcmpN dX12_heldOf_91 ?_
            refine v_if_ne (tgt := 199) dX12_heldOf_92 (by decide) (fun c18 => ?_) (fun c18 => ?_)
            · replace h := b_wp_f c18 h
              obtain ⟨g19, h⟩ := b_wp_g h
              refine v_iconst ⟨by decide, by decide⟩ dX12_heldOf_199 ?_
              refine v_istore (i := 7) (ls' := [(7, bI _), (9, bI _), (0, bR _), (1, bI _), (2, bI _), (4, bI _), (5, bI _), (6, bI _), (8, bI _)]) (by decide) dX12_heldOf_200 rfl ?_
              refine v_iincN (ls' := [(8, bI _), (7, bI _), (9, bI _), (0, bR _), (1, bI _), (2, bI _), (4, bI _), (5, bI _), (6, bI _)]) 8 rfl (by decide) g19 dX12_heldOf_202 rfl ?_
              refine v_goto (tgt := 23) dX12_heldOf_205 (by decide) ?_
              refine v_sub (ls2 := [(0, bR _), (1, bI _), (2, bI _), (4, bI _), (5, bI _), (6, bI _), (7, bI _), (8, bI _)]) [3, 4, 5, 6, 7, 8, 1, 0] rfl ?_
              exact h
            · replace h := b_wp_t c18 h
              obtain ⟨⟨g20, g21, g22⟩, h⟩ := b_wp_g h
              refine v_aload_n (f := 0) 1 rfl dX12_heldOf_95 ?_
              refine v_getR (kf := 57) (kz := 57) rfl kd_11 rfl ⟨by decide, by decide⟩ rfl wf_12_121 dX12_heldOf_96 ?_
              refine v_iconst ⟨by decide, by decide⟩ dX12_heldOf_99 ?_
              refine v_iload (i := 8) 8 rfl dX12_heldOf_100 ?_
              refine v_imulN g20 dX12_heldOf_102 ?_
              refine v_iconst ⟨by decide, by decide⟩ dX12_heldOf_103 ?_
              refine v_iaddN g21 dX12_heldOf_104 ?_
              refine v_iaload kd_196 g22 (by decide) dX12_heldOf_105 ?_
              refine v_iconst ⟨by decide, by decide⟩ dX12_heldOf_106 ?_
              refine v_icmp_eq (tgt := 199) dX12_heldOf_107 (by decide) (fun c23 => ?_) (fun c23 => ?_)
              · replace h := b_wp_t c23 h
                obtain ⟨g24, h⟩ := b_wp_g h
                refine v_iconst ⟨by decide, by decide⟩ dX12_heldOf_199 ?_
                refine v_istore (i := 7) (ls' := [(7, bI _), (9, bI _), (0, bR _), (1, bI _), (2, bI _), (4, bI _), (5, bI _), (6, bI _), (8, bI _)]) (by decide) dX12_heldOf_200 rfl ?_
                refine v_iincN (ls' := [(8, bI _), (7, bI _), (9, bI _), (0, bR _), (1, bI _), (2, bI _), (4, bI _), (5, bI _), (6, bI _)]) 8 rfl (by decide) g24 dX12_heldOf_202 rfl ?_
                refine v_goto (tgt := 23) dX12_heldOf_205 (by decide) ?_
                refine v_sub (ls2 := [(0, bR _), (1, bI _), (2, bI _), (4, bI _), (5, bI _), (6, bI _), (7, bI _), (8, bI _)]) [3, 4, 5, 6, 7, 8, 1, 0] rfl ?_
                exact h
              · replace h := b_wp_f c23 h
                obtain ⟨⟨g25, g26, g27, g28, g29⟩, h⟩ := b_wp_g h
                refine v_aload_n (f := 0) 1 rfl dX12_heldOf_110 ?_
                refine v_getR (kf := 19) (kz := 19) rfl kd_11 rfl ⟨by decide, by decide⟩ rfl wf_12_33 dX12_heldOf_111 ?_
                refine v_aload_n (f := 0) 1 rfl dX12_heldOf_114 ?_
                refine v_getR (kf := 57) (kz := 57) rfl kd_11 rfl ⟨by decide, by decide⟩ rfl wf_12_121 dX12_heldOf_115 ?_
                refine v_iconst ⟨by decide, by decide⟩ dX12_heldOf_118 ?_
                refine v_iload (i := 8) 8 rfl dX12_heldOf_119 ?_
                refine v_imulN g25 dX12_heldOf_121 ?_
                refine v_iconst ⟨by decide, by decide⟩ dX12_heldOf_122 ?_
                refine v_iaddN g26 dX12_heldOf_123 ?_
                refine v_iaload kd_196 g27 (by decide) dX12_heldOf_124 ?_
                refine v_iaload kd_168 g28 (by decide) dX12_heldOf_125 ?_
                refine v_aload_n (f := 0) 1 rfl dX12_heldOf_126 ?_
                refine v_getR (kf := 19) (kz := 19) rfl kd_11 rfl ⟨by decide, by decide⟩ rfl wf_12_33 dX12_heldOf_127 ?_
                refine v_iload_n (f := 2) 3 rfl dX12_heldOf_130 ?_
                refine v_iaload kd_168 g29 (by decide) dX12_heldOf_131 ?_
                refine v_icmp_ne (tgt := 199) dX12_heldOf_132 (by decide) (fun c30 => ?_) (fun c30 => ?_)
                · replace h := b_wp_f c30 h
                  obtain ⟨g31, h⟩ := b_wp_g h
                  refine v_iconst ⟨by decide, by decide⟩ dX12_heldOf_199 ?_
                  refine v_istore (i := 7) (ls' := [(7, bI _), (9, bI _), (0, bR _), (1, bI _), (2, bI _), (4, bI _), (5, bI _), (6, bI _), (8, bI _)]) (by decide) dX12_heldOf_200 rfl ?_
                  refine v_iincN (ls' := [(8, bI _), (7, bI _), (9, bI _), (0, bR _), (1, bI _), (2, bI _), (4, bI _), (5, bI _), (6, bI _)]) 8 rfl (by decide) g31 dX12_heldOf_202 rfl ?_
                  refine v_goto (tgt := 23) dX12_heldOf_205 (by decide) ?_
                  refine v_sub (ls2 := [(0, bR _), (1, bI _), (2, bI _), (4, bI _), (5, bI _), (6, bI _), (7, bI _), (8, bI _)]) [3, 4, 5, 6, 7, 8, 1, 0] rfl ?_
                  exact h
                · replace h := b_wp_t c30 h
                  obtain ⟨⟨g32, g33, g34, g35⟩, h⟩ := b_wp_g h
                  refine v_aload_n (f := 0) 1 rfl dX12_heldOf_135 ?_
                  refine v_getR (kf := 58) (kz := 58) rfl kd_11 rfl ⟨by decide, by decide⟩ rfl wf_12_124 dX12_heldOf_136 ?_
                  refine v_iload (i := 8) 8 rfl dX12_heldOf_139 ?_
                  refine v_iaload kd_197 g32 (by decide) dX12_heldOf_141 ?_
                  refine v_sipush ⟨by decide, by decide⟩ (by decide) dX12_heldOf_142 ?_
                  refine v_iload (i := 6) 6 rfl dX12_heldOf_145 ?_
                  refine v_imulN g33 dX12_heldOf_147 ?_
                  refine v_sipush ⟨by decide, by decide⟩ (by decide) dX12_heldOf_148 ?_
                  refine v_iaddN g34 dX12_heldOf_151 ?_
                  refine v_iconst ⟨by decide, by decide⟩ dX12_heldOf_152 ?_
                  refine v_isubN g35 dX12_heldOf_153 ?_
                  refine v_icmp_gt (tgt := 199) dX12_heldOf_154 (by decide) (fun c36 => ?_) (fun c36 => ?_)
                  · replace h := b_wp_t c36 h
                    obtain ⟨g37, h⟩ := b_wp_g h
                    refine v_iconst ⟨by decide, by decide⟩ dX12_heldOf_199 ?_
                    refine v_istore (i := 7) (ls' := [(7, bI _), (9, bI _), (0, bR _), (1, bI _), (2, bI _), (4, bI _), (5, bI _), (6, bI _), (8, bI _)]) (by decide) dX12_heldOf_200 rfl ?_
                    refine v_iincN (ls' := [(8, bI _), (7, bI _), (9, bI _), (0, bR _), (1, bI _), (2, bI _), (4, bI _), (5, bI _), (6, bI _)]) 8 rfl (by decide) g37 dX12_heldOf_202 rfl ?_
                    refine v_goto (tgt := 23) dX12_heldOf_205 (by decide) ?_
                    refine v_sub (ls2 := [(0, bR _), (1, bI _), (2, bI _), (4, bI _), (5, bI _), (6, bI _), (7, bI _), (8, bI _)]) [3, 4, 5, 6, 7, 8, 1, 0] rfl ?_
                    exact h
                  · replace h := b_wp_f c36 h
                    obtain ⟨⟨g38, g39⟩, h⟩ := b_wp_g h
                    refine v_aload_n (f := 0) 1 rfl dX12_heldOf_157 ?_
                    refine v_getR (kf := 59) (kz := 59) rfl kd_11 rfl ⟨by decide, by decide⟩ rfl wf_12_127 dX12_heldOf_158 ?_
                    refine v_iload (i := 8) 8 rfl dX12_heldOf_161 ?_
                    refine v_iaload kd_198 g38 (by decide) dX12_heldOf_163 ?_
                    refine v_sipush ⟨by decide, by decide⟩ (by decide) dX12_heldOf_164 ?_
                    refine v_iload (i := 6) 6 rfl dX12_heldOf_167 ?_
                    refine v_imulN g39 dX12_heldOf_169 ?_
                    refine v_icmp_lt (tgt := 199) dX12_heldOf_170 (by decide) (fun c40 => ?_) (fun c40 => ?_)
                    · replace h := b_wp_t c40 h
                      obtain ⟨g41, h⟩ := b_wp_g h
                      refine v_iconst ⟨by decide, by decide⟩ dX12_heldOf_199 ?_
                      refine v_istore (i := 7) (ls' := [(7, bI _), (9, bI _), (0, bR _), (1, bI _), (2, bI _), (4, bI _), (5, bI _), (6, bI _), (8, bI _)]) (by decide) dX12_heldOf_200 rfl ?_
                      refine v_iincN (ls' := [(8, bI _), (7, bI _), (9, bI _), (0, bR _), (1, bI _), (2, bI _), (4, bI _), (5, bI _), (6, bI _)]) 8 rfl (by decide) g41 dX12_heldOf_202 rfl ?_
                      refine v_goto (tgt := 23) dX12_heldOf_205 (by decide) ?_
                      refine v_sub (ls2 := [(0, bR _), (1, bI _), (2, bI _), (4, bI _), (5, bI _), (6, bI _), (7, bI _), (8, bI _)]) [3, 4, 5, 6, 7, 8, 1, 0] rfl ?_
                      exact h
                    · replace h := b_wp_f c40 h
                      refine v_aload_n (f := 0) 1 rfl dX12_heldOf_173 ?_
                      refine v_iload (i := 8) 8 rfl dX12_heldOf_174 ?_
                      refine v_iload (i := 4) 4 rfl dX12_heldOf_176 ?_
                      refine v_cVI (nA := 2) (As := [bI _, bI _]) (ix := 514) (cf_X12_weightOf (b_wp_b h)) rfl kd_11 rfl rfl wc_X12_weightOf wm_12_514 wi_X12_weightOf ws_X12_weightOf wn_12 ⟨by decide, by decide, by decide⟩ rfl ⟨by decide, by decide⟩ ⟨by decide, by decide⟩ (Nat.le_of_ble_eq_true rfl) dX12_heldOf_178 (fun x42 M43 h => ?_)
                      replace h := b_wp_two h
                      refine v_if_le (tgt := 199) dX12_heldOf_181 (by decide) (fun c44 => ?_) (fun c44 => ?_)
                      · replace h := b_wp_t c44 h
                        obtain ⟨g45, h⟩ := b_wp_g h
                        refine v_iconst ⟨by decide, by decide⟩ dX12_heldOf_199 ?_
                        refine v_istore (i := 7) (ls' := [(7, bI _), (9, bI _), (0, bR _), (1, bI _), (2, bI _), (4, bI _), (5, bI _), (6, bI _), (8, bI _)]) (by decide) dX12_heldOf_200 rfl ?_
                        refine v_iincN (ls' := [(8, bI _), (7, bI _), (9, bI _), (0, bR _), (1, bI _), (2, bI _), (4, bI _), (5, bI _), (6, bI _)]) 8 rfl (by decide) g45 dX12_heldOf_202 rfl ?_
                        refine v_goto (tgt := 23) dX12_heldOf_205 (by decide) ?_
                        refine v_sub (ls2 := [(0, bR _), (1, bI _), (2, bI _), (4, bI _), (5, bI _), (6, bI _), (7, bI _), (8, bI _)]) [3, 4, 5, 6, 7, 8, 1, 0] rfl ?_
                        exact h
                      · replace h := b_wp_f c44 h
                        refine v_aload_n (f := 0) 1 rfl dX12_heldOf_184 ?_
                        refine v_iload (i := 8) 8 rfl dX12_heldOf_185 ?_
                        refine v_iload (i := 4) 4 rfl dX12_heldOf_187 ?_
                        refine v_cVIp (nA := 2) (As := [bI _, bI _]) (ix := 520) (cf_X12_cantOf (b_wp_b h)) rfl kd_11 rfl rfl wc_X12_cantOf wm_12_520 wi_X12_cantOf ws_X12_cantOf wn_12 ⟨by decide, by decide, by decide⟩ rfl ⟨by decide, by decide⟩ ⟨by decide, by decide⟩ (Nat.le_of_ble_eq_true rfl) dX12_heldOf_189 (fun x46 h => ?_)
                        refine v_if_ne (tgt := 199) dX12_heldOf_192 (by decide) (fun c47 => ?_) (fun c47 => ?_)
                        · replace h := b_wp_f c47 h
                          obtain ⟨g48, h⟩ := b_wp_g h
                          refine v_iconst ⟨by decide, by decide⟩ dX12_heldOf_199 ?_
                          refine v_istore (i := 7) (ls' := [(7, bI _), (9, bI _), (0, bR _), (1, bI _), (2, bI _), (4, bI _), (5, bI _), (6, bI _), (8, bI _)]) (by decide) dX12_heldOf_200 rfl ?_
                          refine v_iincN (ls' := [(8, bI _), (7, bI _), (9, bI _), (0, bR _), (1, bI _), (2, bI _), (4, bI _), (5, bI _), (6, bI _)]) 8 rfl (by decide) g48 dX12_heldOf_202 rfl ?_
                          refine v_goto (tgt := 23) dX12_heldOf_205 (by decide) ?_
                          refine v_sub (ls2 := [(0, bR _), (1, bI _), (2, bI _), (4, bI _), (5, bI _), (6, bI _), (7, bI _), (8, bI _)]) [3, 4, 5, 6, 7, 8, 1, 0] rfl ?_
                          exact h
                        · replace h := b_wp_t c47 h
                          obtain ⟨g49, h⟩ := b_wp_g h
                          refine v_iconst ⟨by decide, by decide⟩ dX12_heldOf_195 ?_
                          refine v_goto (tgt := 200) dX12_heldOf_196 (by decide) ?_
                          refine v_istore (i := 7) (ls' := [(7, bI _), (9, bI _), (0, bR _), (1, bI _), (2, bI _), (4, bI _), (5, bI _), (6, bI _), (8, bI _)]) (by decide) dX12_heldOf_200 rfl ?_
                          refine v_iincN (ls' := [(8, bI _), (7, bI _), (9, bI _), (0, bR _), (1, bI _), (2, bI _), (4, bI _), (5, bI _), (6, bI _)]) 8 rfl (by decide) g49 dX12_heldOf_202 rfl ?_
                          refine v_goto (tgt := 23) dX12_heldOf_205 (by decide) ?_
                          refine v_sub (ls2 := [(0, bR _), (1, bI _), (2, bI _), (4, bI _), (5, bI _), (6, bI _), (7, bI _), (8, bI _)]) [3, 4, 5, 6, 7, 8, 1, 0] rfl ?_
                          exact h
theorem l_X12_heldOf_23 {l : Launch} {E : bE} {Q : (Int × bM) → Prop} {v1 : Int} {v2 : Int} {v4 : Int} {v5 : Int} {v6 : Int} {s : Int × Int × bM} (h : b_wp (b_loop (fun t => F_X12_heldOf_s23 v1 v2 v4 v5 v6 t.1 t.2.1 t.2.2) s) (X_X12_heldOf_23 l E Q v1 v2 v4 v5 v6)) : A_X12_heldOf_23 l E Q v1 v2 v4 v5 v6 s := b_loop_wp (fun t h => t_X12_heldOf_s23 h) s h
noncomputable def F_X12_heldOf_b208 (v1 : Int) (v2 : Int) (v4 : Int) (v5 : Int) (v6 : Int) (v7 : Int) (M : bM) : Option ((Int × Int × bM) ⊕ ((Int × bM) ⊕ (Int × bM))) :=
  if v7 = 0 then (some (.inr (.inr (v5, M)))) else (b_g ((b_i32 (v5 + 1)) ∧ (b_i32 (v6 + (-1)))) (some (.inl ((v5 + 1), (v6 + (-1)), M))))
theorem t_X12_heldOf_b208 {l : Launch} {E : bE} {Q : (Int × bM) → Prop} {v1 : Int} {v2 : Int} {v4 : Int} {v5 : Int} {v6 : Int} {v7 : Int} {M : bM} (h : b_wp (F_X12_heldOf_b208 v1 v2 v4 v5 v6 v7 M) (Sum.elim (A_X12_heldOf_12 l E Q v1 v2 v4) (X_X12_heldOf_12 l E Q v1 v2 v4))) : V l E xX12_heldOf (0, 0) 208 [(0, bR 11), (1, bI v1), (2, bI v2), (4, bI v4), (5, bI v5), (6, bI v6), (7, bI v7)] [] M (b_pI Q) := by
  unfold F_X12_heldOf_b208 at h
  refine v_iload (i := 7) 6 rfl dX12_heldOf_208 ?_
  refine v_if_ne (tgt := 216) dX12_heldOf_210 (by decide) (fun c50 => ?_) (fun c50 => ?_)
  · replace h := b_wp_f c50 h
    obtain ⟨⟨g51, g52⟩, h⟩ := b_wp_g h
    refine v_iincN (ls' := [(5, bI _), (0, bR _), (1, bI _), (2, bI _), (4, bI _), (6, bI _), (7, bI _)]) 4 rfl (by decide) g51 dX12_heldOf_216 rfl ?_
    refine v_iincN (ls' := [(6, bI _), (5, bI _), (0, bR _), (1, bI _), (2, bI _), (4, bI _), (7, bI _)]) 5 rfl (by decide) g52 dX12_heldOf_219 rfl ?_
    refine v_goto (tgt := 12) dX12_heldOf_222 (by decide) ?_
    refine v_sub (ls2 := [(0, bR _), (1, bI _), (2, bI _), (4, bI _), (5, bI _), (6, bI _)]) [2, 3, 4, 5, 1, 0] rfl ?_
    exact h
  · replace h := b_wp_t c50 h
    refine v_iload (i := 5) 4 rfl dX12_heldOf_213 ?_
    refine v_ireturn rfl dX12_heldOf_215 ⟨by decide, by decide⟩ ?_
    exact ⟨_, rfl, h⟩
noncomputable def F_X12_heldOf_s12 (v1 : Int) (v2 : Int) (v4 : Int) (v5 : Int) (v6 : Int) (M : bM) : Option ((Int × Int × bM) ⊕ ((Int × bM) ⊕ (Int × bM))) :=
  if v6 < 0 then (some (.inr (.inl (v5, M)))) else (b_bind (b_loop (fun t => F_X12_heldOf_s23 v1 v2 v4 v5 v6 t.1 t.2.1 t.2.2) (0, 0, M)) (fun t => F_X12_heldOf_b208 v1 v2 v4 v5 v6 (t.1) (t.2)))
theorem t_X12_heldOf_s12 {l : Launch} {E : bE} {Q : (Int × bM) → Prop} {v1 : Int} {v2 : Int} {v4 : Int} {v5 : Int} {v6 : Int} {M : bM} (h : b_wp (F_X12_heldOf_s12 v1 v2 v4 v5 v6 M) (Sum.elim (A_X12_heldOf_12 l E Q v1 v2 v4) (X_X12_heldOf_12 l E Q v1 v2 v4))) : V l E xX12_heldOf (0, 0) 12 [(0, bR 11), (1, bI v1), (2, bI v2), (4, bI v4), (5, bI v5), (6, bI v6)] [] M (b_pI Q) := by
  unfold F_X12_heldOf_s12 at h
  refine v_iload (i := 6) 5 rfl dX12_heldOf_12 ?_
  refine v_if_lt (tgt := 225) dX12_heldOf_14 (by decide) (fun c2 => ?_) (fun c2 => ?_)
  · replace h := b_wp_t c2 h
    refine v_sub (ls2 := [(5, bI _)]) [4] rfl ?_
    exact h
  · replace h := b_wp_f c2 h
    refine v_iconst ⟨by decide, by decide⟩ dX12_heldOf_17 ?_
    refine v_istore (i := 7) (ls' := [(7, bI _), (0, bR _), (1, bI _), (2, bI _), (4, bI _), (5, bI _), (6, bI _)]) (by decide) dX12_heldOf_18 rfl ?_
    refine v_iconst ⟨by decide, by decide⟩ dX12_heldOf_20 ?_
    refine v_istore (i := 8) (ls' := [(8, bI _), (7, bI _), (0, bR _), (1, bI _), (2, bI _), (4, bI _), (5, bI _), (6, bI _)]) (by decide) dX12_heldOf_21 rfl ?_
    refine v_sub (ls2 := [(0, bR _), (1, bI _), (2, bI _), (4, bI _), (5, bI _), (6, bI _), (7, bI _), (8, bI _)]) [2, 3, 4, 5, 6, 7, 1, 0] rfl ?_
    refine l_X12_heldOf_23 (b_wp_m (fun t h => ?_) (b_wp_b h))
    show V l E xX12_heldOf (0, 0) 208 [(0, bR 11), (1, bI _), (2, bI _), (4, bI _), (5, bI _), (6, bI _), (7, bI _)] [] _ (b_pI Q)
    exact t_X12_heldOf_b208 h
theorem l_X12_heldOf_12 {l : Launch} {E : bE} {Q : (Int × bM) → Prop} {v1 : Int} {v2 : Int} {v4 : Int} {s : Int × Int × bM} (h : b_wp (b_loop (fun t => F_X12_heldOf_s12 v1 v2 v4 t.1 t.2.1 t.2.2) s) (X_X12_heldOf_12 l E Q v1 v2 v4)) : A_X12_heldOf_12 l E Q v1 v2 v4 s := b_loop_wp (fun t h => t_X12_heldOf_s12 h) s h
noncomputable def F_X12_heldOf_b225 (v5 : Int) (M : bM) : Option (Int × bM) :=
  some (v5, M)
theorem t_X12_heldOf_b225 {l : Launch} {E : bE} {Q : (Int × bM) → Prop} {v5 : Int} {M : bM} (h : b_wp (F_X12_heldOf_b225 v5 M) (Q)) : V l E xX12_heldOf (0, 0) 225 [(5, bI v5)] [] M (b_pI Q) := by
  unfold F_X12_heldOf_b225 at h
  refine v_iload (i := 5) 0 rfl dX12_heldOf_225 ?_
  refine v_ireturn rfl dX12_heldOf_227 ⟨by decide, by decide⟩ ?_
  exact ⟨_, rfl, h⟩
noncomputable def F_X12_heldOf (v1 : Int) (v2 : Int) (v3 : Int) (v4 : Int) (M : bM) : Option (Int × bM) :=
  b_bind (F_X12_makeOnes v4 M) (fun M1 => b_bind (b_loop (fun t => F_X12_heldOf_s12 v1 v2 v4 t.1 t.2.1 t.2.2) (0, v3, M1)) (Sum.elim (fun t => F_X12_heldOf_b225 (t.1) (t.2)) some))
theorem t_X12_heldOf {l : Launch} {E : bE} {Q : (Int × bM) → Prop} {v1 : Int} {v2 : Int} {v3 : Int} {v4 : Int} {M : bM} (h : b_wp (F_X12_heldOf v1 v2 v3 v4 M) (Q)) : V l E xX12_heldOf (0, 0) 0 [(0, bR 11), (1, bI v1), (2, bI v2), (3, bI v3), (4, bI v4)] [] M (b_pI Q) := by
  unfold F_X12_heldOf at h
  refine v_iconst ⟨by decide, by decide⟩ dX12_heldOf_0 ?_
  refine v_istore (i := 5) (ls' := [(5, bI _), (0, bR _), (1, bI _), (2, bI _), (3, bI _), (4, bI _)]) (by decide) dX12_heldOf_1 rfl ?_
  refine v_aload_n (f := 0) 1 rfl dX12_heldOf_3 ?_
  refine v_iload (i := 4) 5 rfl dX12_heldOf_4 ?_
  refine v_cVV (nA := 1) (As := [bI _]) (ix := 367) (cf_X12_makeOnes (b_wp_b h)) rfl kd_11 rfl rfl wc_X12_makeOnes wm_12_367 wi_X12_makeOnes ws_X12_makeOnes wn_12 ⟨by decide, by decide, by decide⟩ rfl ⟨by decide, by decide⟩ ⟨by decide, by decide⟩ (Nat.le_of_ble_eq_true rfl) dX12_heldOf_6 (fun M1 h => ?_)
  refine v_iload_n (f := 3) 4 rfl dX12_heldOf_9 ?_
  refine v_istore (i := 6) (ls' := [(6, bI _), (5, bI _), (0, bR _), (1, bI _), (2, bI _), (3, bI _), (4, bI _)]) (by decide) dX12_heldOf_10 rfl ?_
  refine v_sub (ls2 := [(0, bR _), (1, bI _), (2, bI _), (4, bI _), (5, bI _), (6, bI _)]) [2, 3, 4, 6, 1, 0] rfl ?_
  refine l_X12_heldOf_12 (b_wp_m (fun t h => ?_) (b_wp_b h))
  cases t with
  | inr o => exact h
  | inl t =>
    show V l E xX12_heldOf (0, 0) 225 [(5, bI _)] [] _ (b_pI Q)
    replace h := b_wp_inl h
    exact t_X12_heldOf_b225 h
theorem cf_X12_heldOf {l : Launch} {E : bE} {M : bM} {v1 : Int} {v2 : Int} {v3 : Int} {v4 : Int} {Q : (Int × bM) → Prop} (h : b_wp (F_X12_heldOf v1 v2 v3 v4 M) Q) : b_C l E xX12_heldOf yX12_heldOf [bR 11, bI v1, bI v2, bI v3, bI v4] M (b_pI Q) := b_met (by decide) ⟨rfl, rfl⟩ (Nat.le_of_ble_eq_true rfl) (fun _ _ => t_X12_heldOf h)
abbrev xX12_held : bX := ("BurntHallModel", prog_14_method_107_code, 5, (Option.some Jvm.ClassFile.FieldType.int), b_rm 5 0 0, 0, "held")
abbrev yX12_held : MethodName := ⟨"BurntHallModel", "held", "(IIII)I"⟩
theorem dX12_held_0 : decode prog_14_method_107_code 0 = .ok (.aload_n 0, 1) := by decide +kernel
theorem dX12_held_1 : decode prog_14_method_107_code 1 = .ok (.iload_n 1, 1) := by decide +kernel
theorem dX12_held_2 : decode prog_14_method_107_code 2 = .ok (.invokevirtual 385, 3) := by decide +kernel
theorem dX12_held_5 : decode prog_14_method_107_code 5 = .ok (.ifCond .eq 41, 3) := by decide +kernel
theorem dX12_held_8 : decode prog_14_method_107_code 8 = .ok (.aload_n 0, 1) := by decide +kernel
theorem dX12_held_9 : decode prog_14_method_107_code 9 = .ok (.iload_n 2, 1) := by decide +kernel
theorem dX12_held_10 : decode prog_14_method_107_code 10 = .ok (.invokevirtual 356, 3) := by decide +kernel
theorem dX12_held_13 : decode prog_14_method_107_code 13 = .ok (.ifCond .eq 33, 3) := by decide +kernel
theorem dX12_held_16 : decode prog_14_method_107_code 16 = .ok (.iload_n 3, 1) := by decide +kernel
theorem dX12_held_17 : decode prog_14_method_107_code 17 = .ok (.iconst 0, 1) := by decide +kernel
theorem dX12_held_18 : decode prog_14_method_107_code 18 = .ok (.bipush 27, 2) := by decide +kernel
theorem dX12_held_20 : decode prog_14_method_107_code 20 = .ok (.invokestatic 279, 3) := by decide +kernel
theorem dX12_held_23 : decode prog_14_method_107_code 23 = .ok (.ifCond .eq 23, 3) := by decide +kernel
theorem dX12_held_26 : decode prog_14_method_107_code 26 = .ok (.iload 4, 2) := by decide +kernel
theorem dX12_held_28 : decode prog_14_method_107_code 28 = .ok (.invokestatic 347, 3) := by decide +kernel
theorem dX12_held_31 : decode prog_14_method_107_code 31 = .ok (.ifCond .eq 15, 3) := by decide +kernel
theorem dX12_held_34 : decode prog_14_method_107_code 34 = .ok (.aload_n 0, 1) := by decide +kernel
theorem dX12_held_35 : decode prog_14_method_107_code 35 = .ok (.iload_n 1, 1) := by decide +kernel
theorem dX12_held_36 : decode prog_14_method_107_code 36 = .ok (.iload_n 2, 1) := by decide +kernel
theorem dX12_held_37 : decode prog_14_method_107_code 37 = .ok (.iload_n 3, 1) := by decide +kernel
theorem dX12_held_38 : decode prog_14_method_107_code 38 = .ok (.iload 4, 2) := by decide +kernel
theorem dX12_held_40 : decode prog_14_method_107_code 40 = .ok (.invokevirtual 619, 3) := by decide +kernel
theorem dX12_held_43 : decode prog_14_method_107_code 43 = .ok (.goto 5, 3) := by decide +kernel
theorem dX12_held_46 : decode prog_14_method_107_code 46 = .ok (.bipush (-2), 2) := by decide +kernel
theorem dX12_held_48 : decode prog_14_method_107_code 48 = .ok (.ireturn, 1) := by decide +kernel
noncomputable def F_X12_held (v1 : Int) (v2 : Int) (v3 : Int) (v4 : Int) (M : bM) : Option (Int × bM) :=
  b_bind (F_X12_isLot v1 M) (fun x1 => if x1 = 0 then (some ((-2), M)) else (b_bind (F_X12_isPerson v2 M) (fun x3 => if x3 = 0 then (some ((-2), M)) else (b_bind (F_X12_in v3 0 27 M) (fun x5 => if x5 = 0 then (some ((-2), M)) else (b_bind (F_X12_isDay v4 M) (fun x7 => if x7 = 0 then (some ((-2), M)) else (b_bind (F_X12_heldOf v1 v2 v3 v4 M) (fun t => b_two t (fun x9 M10 => some (x9, M10)))))))))))
theorem t_X12_held {l : Launch} {E : bE} {Q : (Int × bM) → Prop} {v1 : Int} {v2 : Int} {v3 : Int} {v4 : Int} {M : bM} (h : b_wp (F_X12_held v1 v2 v3 v4 M) (Q)) : V l E xX12_held (0, 0) 0 [(0, bR 11), (1, bI v1), (2, bI v2), (3, bI v3), (4, bI v4)] [] M (b_pI Q) := by
  unfold F_X12_held at h
  refine v_aload_n (f := 0) 0 rfl dX12_held_0 ?_
  refine v_iload_n (f := 1) 1 rfl dX12_held_1 ?_
  refine v_cVIp (nA := 1) (As := [bI _]) (ix := 385) (cf_X12_isLot (b_wp_b h)) rfl kd_11 rfl rfl wc_X12_isLot wm_12_385 wi_X12_isLot ws_X12_isLot wn_12 ⟨by decide, by decide, by decide⟩ rfl ⟨by decide, by decide⟩ ⟨by decide, by decide⟩ (Nat.le_of_ble_eq_true rfl) dX12_held_2 (fun x1 h => ?_)
  refine v_if_eq (tgt := 46) dX12_held_5 (by decide) (fun c2 => ?_) (fun c2 => ?_)
  · replace h := b_wp_t c2 h
    refine v_bipush ⟨by decide, by decide⟩ (by decide) dX12_held_46 ?_
    refine v_ireturn rfl dX12_held_48 ⟨by decide, by decide⟩ ?_
    exact ⟨_, rfl, h⟩
  · replace h := b_wp_f c2 h
    refine v_aload_n (f := 0) 0 rfl dX12_held_8 ?_
    refine v_iload_n (f := 2) 2 rfl dX12_held_9 ?_
    refine v_cVIp (nA := 1) (As := [bI _]) (ix := 356) (cf_X12_isPerson (b_wp_b h)) rfl kd_11 rfl rfl wc_X12_isPerson wm_12_356 wi_X12_isPerson ws_X12_isPerson wn_12 ⟨by decide, by decide, by decide⟩ rfl ⟨by decide, by decide⟩ ⟨by decide, by decide⟩ (Nat.le_of_ble_eq_true rfl) dX12_held_10 (fun x3 h => ?_)
    refine v_if_eq (tgt := 46) dX12_held_13 (by decide) (fun c4 => ?_) (fun c4 => ?_)
    · replace h := b_wp_t c4 h
      refine v_bipush ⟨by decide, by decide⟩ (by decide) dX12_held_46 ?_
      refine v_ireturn rfl dX12_held_48 ⟨by decide, by decide⟩ ?_
      exact ⟨_, rfl, h⟩
    · replace h := b_wp_f c4 h
      refine v_iload_n (f := 3) 3 rfl dX12_held_16 ?_
      refine v_iconst ⟨by decide, by decide⟩ dX12_held_17 ?_
      refine v_bipush ⟨by decide, by decide⟩ (by decide) dX12_held_18 ?_
      refine v_cSIp (nA := 3) (As := [bI _, bI _, bI _]) (ix := 279) (cf_X12_in (b_wp_b h)) rfl wc_X12_in wm_12_279 wi_X12_in wn_12 ⟨by decide, by decide, by decide⟩ rfl ⟨by decide, by decide⟩ ⟨by decide, by decide⟩ (Nat.le_of_ble_eq_true rfl) dX12_held_20 (fun x5 h => ?_)
      refine v_if_eq (tgt := 46) dX12_held_23 (by decide) (fun c6 => ?_) (fun c6 => ?_)
      · replace h := b_wp_t c6 h
        refine v_bipush ⟨by decide, by decide⟩ (by decide) dX12_held_46 ?_
        refine v_ireturn rfl dX12_held_48 ⟨by decide, by decide⟩ ?_
        exact ⟨_, rfl, h⟩
      · replace h := b_wp_f c6 h
        refine v_iload (i := 4) 4 rfl dX12_held_26 ?_
        refine v_cSIp (nA := 1) (As := [bI _]) (ix := 347) (cf_X12_isDay (b_wp_b h)) rfl wc_X12_isDay wm_12_347 wi_X12_isDay wn_12 ⟨by decide, by decide, by decide⟩ rfl ⟨by decide, by decide⟩ ⟨by decide, by decide⟩ (Nat.le_of_ble_eq_true rfl) dX12_held_28 (fun x7 h => ?_)
        refine v_if_eq (tgt := 46) dX12_held_31 (by decide) (fun c8 => ?_) (fun c8 => ?_)
        · replace h := b_wp_t c8 h
          refine v_bipush ⟨by decide, by decide⟩ (by decide) dX12_held_46 ?_
          refine v_ireturn rfl dX12_held_48 ⟨by decide, by decide⟩ ?_
          exact ⟨_, rfl, h⟩
        · replace h := b_wp_f c8 h
          refine v_aload_n (f := 0) 0 rfl dX12_held_34 ?_
          refine v_iload_n (f := 1) 1 rfl dX12_held_35 ?_
          refine v_iload_n (f := 2) 2 rfl dX12_held_36 ?_
          refine v_iload_n (f := 3) 3 rfl dX12_held_37 ?_
          refine v_iload (i := 4) 4 rfl dX12_held_38 ?_
          refine v_cVI (nA := 4) (As := [bI _, bI _, bI _, bI _]) (ix := 619) (cf_X12_heldOf (b_wp_b h)) rfl kd_11 rfl rfl wc_X12_heldOf wm_12_619 wi_X12_heldOf ws_X12_heldOf wn_12 ⟨by decide, by decide, by decide⟩ rfl ⟨by decide, by decide⟩ ⟨by decide, by decide⟩ (Nat.le_of_ble_eq_true rfl) dX12_held_40 (fun x9 M10 h => ?_)
          replace h := b_wp_two h
          refine v_goto (tgt := 48) dX12_held_43 (by decide) ?_
          refine v_ireturn rfl dX12_held_48 ⟨by decide, by decide⟩ ?_
          exact ⟨_, rfl, h⟩
theorem cf_X12_held {l : Launch} {E : bE} {M : bM} {v1 : Int} {v2 : Int} {v3 : Int} {v4 : Int} {Q : (Int × bM) → Prop} (h : b_wp (F_X12_held v1 v2 v3 v4 M) Q) : b_C l E xX12_held yX12_held [bR 11, bI v1, bI v2, bI v3, bI v4] M (b_pI Q) := b_met (by decide) ⟨rfl, rfl⟩ (Nat.le_of_ble_eq_true rfl) (fun _ _ => t_X12_held h)
abbrev xX12_mortgage : bX := ("BurntHallModel", prog_14_method_108_code, 6, (Option.some Jvm.ClassFile.FieldType.int), b_rm 3 0 0, 0, "mortgage")
abbrev yX12_mortgage : MethodName := ⟨"BurntHallModel", "mortgage", "(IIIII)I"⟩
theorem dX12_mortgage_0 : decode prog_14_method_108_code 0 = .ok (.aload_n 0, 1) := by decide +kernel
theorem dX12_mortgage_1 : decode prog_14_method_108_code 1 = .ok (.iload_n 1, 1) := by decide +kernel
theorem dX12_mortgage_2 : decode prog_14_method_108_code 2 = .ok (.invokevirtual 385, 3) := by decide +kernel
theorem dX12_mortgage_5 : decode prog_14_method_108_code 5 = .ok (.ifCond .eq 43, 3) := by decide +kernel
theorem dX12_mortgage_8 : decode prog_14_method_108_code 8 = .ok (.aload_n 0, 1) := by decide +kernel
theorem dX12_mortgage_9 : decode prog_14_method_108_code 9 = .ok (.iload_n 2, 1) := by decide +kernel
theorem dX12_mortgage_10 : decode prog_14_method_108_code 10 = .ok (.invokevirtual 356, 3) := by decide +kernel
theorem dX12_mortgage_13 : decode prog_14_method_108_code 13 = .ok (.ifCond .eq 35, 3) := by decide +kernel
theorem dX12_mortgage_16 : decode prog_14_method_108_code 16 = .ok (.iload_n 3, 1) := by decide +kernel
theorem dX12_mortgage_17 : decode prog_14_method_108_code 17 = .ok (.iconst 1, 1) := by decide +kernel
theorem dX12_mortgage_18 : decode prog_14_method_108_code 18 = .ok (.ldc_w 622, 3) := by decide +kernel
theorem dX12_mortgage_21 : decode prog_14_method_108_code 21 = .ok (.invokestatic 279, 3) := by decide +kernel
theorem dX12_mortgage_24 : decode prog_14_method_108_code 24 = .ok (.ifCond .eq 24, 3) := by decide +kernel
theorem dX12_mortgage_27 : decode prog_14_method_108_code 27 = .ok (.iload 4, 2) := by decide +kernel
theorem dX12_mortgage_29 : decode prog_14_method_108_code 29 = .ok (.invokestatic 347, 3) := by decide +kernel
theorem dX12_mortgage_32 : decode prog_14_method_108_code 32 = .ok (.ifCond .eq 16, 3) := by decide +kernel
theorem dX12_mortgage_35 : decode prog_14_method_108_code 35 = .ok (.iload 5, 2) := by decide +kernel
theorem dX12_mortgage_37 : decode prog_14_method_108_code 37 = .ok (.iload 4, 2) := by decide +kernel
theorem dX12_mortgage_39 : decode prog_14_method_108_code 39 = .ok (.sipush 9999, 3) := by decide +kernel
theorem dX12_mortgage_42 : decode prog_14_method_108_code 42 = .ok (.invokestatic 279, 3) := by decide +kernel
theorem dX12_mortgage_45 : decode prog_14_method_108_code 45 = .ok (.ifCond .ne 6, 3) := by decide +kernel
theorem dX12_mortgage_48 : decode prog_14_method_108_code 48 = .ok (.bipush (-2), 2) := by decide +kernel
theorem dX12_mortgage_50 : decode prog_14_method_108_code 50 = .ok (.ireturn, 1) := by decide +kernel
theorem dX12_mortgage_51 : decode prog_14_method_108_code 51 = .ok (.aload_n 0, 1) := by decide +kernel
theorem dX12_mortgage_52 : decode prog_14_method_108_code 52 = .ok (.getfield 623, 3) := by decide +kernel
theorem dX12_mortgage_55 : decode prog_14_method_108_code 55 = .ok (.bipush 40, 2) := by decide +kernel
theorem dX12_mortgage_57 : decode prog_14_method_108_code 57 = .ok (.if_icmp .ne 6, 3) := by decide +kernel
theorem dX12_mortgage_60 : decode prog_14_method_108_code 60 = .ok (.bipush (-3), 2) := by decide +kernel
theorem dX12_mortgage_62 : decode prog_14_method_108_code 62 = .ok (.ireturn, 1) := by decide +kernel
theorem dX12_mortgage_63 : decode prog_14_method_108_code 63 = .ok (.aload_n 0, 1) := by decide +kernel
theorem dX12_mortgage_64 : decode prog_14_method_108_code 64 = .ok (.getfield 209, 3) := by decide +kernel
theorem dX12_mortgage_67 : decode prog_14_method_108_code 67 = .ok (.aload_n 0, 1) := by decide +kernel
theorem dX12_mortgage_68 : decode prog_14_method_108_code 68 = .ok (.getfield 623, 3) := by decide +kernel
theorem dX12_mortgage_71 : decode prog_14_method_108_code 71 = .ok (.iload_n 1, 1) := by decide +kernel
theorem dX12_mortgage_72 : decode prog_14_method_108_code 72 = .ok (.iastore, 1) := by decide +kernel
theorem dX12_mortgage_73 : decode prog_14_method_108_code 73 = .ok (.aload_n 0, 1) := by decide +kernel
theorem dX12_mortgage_74 : decode prog_14_method_108_code 74 = .ok (.getfield 212, 3) := by decide +kernel
theorem dX12_mortgage_77 : decode prog_14_method_108_code 77 = .ok (.aload_n 0, 1) := by decide +kernel
theorem dX12_mortgage_78 : decode prog_14_method_108_code 78 = .ok (.getfield 623, 3) := by decide +kernel
theorem dX12_mortgage_81 : decode prog_14_method_108_code 81 = .ok (.iload_n 2, 1) := by decide +kernel
theorem dX12_mortgage_82 : decode prog_14_method_108_code 82 = .ok (.iastore, 1) := by decide +kernel
theorem dX12_mortgage_83 : decode prog_14_method_108_code 83 = .ok (.aload_n 0, 1) := by decide +kernel
theorem dX12_mortgage_84 : decode prog_14_method_108_code 84 = .ok (.getfield 215, 3) := by decide +kernel
theorem dX12_mortgage_87 : decode prog_14_method_108_code 87 = .ok (.aload_n 0, 1) := by decide +kernel
theorem dX12_mortgage_88 : decode prog_14_method_108_code 88 = .ok (.getfield 623, 3) := by decide +kernel
theorem dX12_mortgage_91 : decode prog_14_method_108_code 91 = .ok (.iload 4, 2) := by decide +kernel
theorem dX12_mortgage_93 : decode prog_14_method_108_code 93 = .ok (.iastore, 1) := by decide +kernel
theorem dX12_mortgage_94 : decode prog_14_method_108_code 94 = .ok (.aload_n 0, 1) := by decide +kernel
theorem dX12_mortgage_95 : decode prog_14_method_108_code 95 = .ok (.getfield 218, 3) := by decide +kernel
theorem dX12_mortgage_98 : decode prog_14_method_108_code 98 = .ok (.aload_n 0, 1) := by decide +kernel
theorem dX12_mortgage_99 : decode prog_14_method_108_code 99 = .ok (.getfield 623, 3) := by decide +kernel
theorem dX12_mortgage_102 : decode prog_14_method_108_code 102 = .ok (.iload 5, 2) := by decide +kernel
theorem dX12_mortgage_104 : decode prog_14_method_108_code 104 = .ok (.iastore, 1) := by decide +kernel
theorem dX12_mortgage_105 : decode prog_14_method_108_code 105 = .ok (.aload_n 0, 1) := by decide +kernel
theorem dX12_mortgage_106 : decode prog_14_method_108_code 106 = .ok (.getfield 221, 3) := by decide +kernel
theorem dX12_mortgage_109 : decode prog_14_method_108_code 109 = .ok (.aload_n 0, 1) := by decide +kernel
theorem dX12_mortgage_110 : decode prog_14_method_108_code 110 = .ok (.getfield 623, 3) := by decide +kernel
theorem dX12_mortgage_113 : decode prog_14_method_108_code 113 = .ok (.iconst (-1), 1) := by decide +kernel
theorem dX12_mortgage_114 : decode prog_14_method_108_code 114 = .ok (.iastore, 1) := by decide +kernel
theorem dX12_mortgage_115 : decode prog_14_method_108_code 115 = .ok (.aload_n 0, 1) := by decide +kernel
theorem dX12_mortgage_116 : decode prog_14_method_108_code 116 = .ok (.dup, 1) := by decide +kernel
theorem dX12_mortgage_117 : decode prog_14_method_108_code 117 = .ok (.getfield 623, 3) := by decide +kernel
theorem dX12_mortgage_120 : decode prog_14_method_108_code 120 = .ok (.iconst 1, 1) := by decide +kernel
theorem dX12_mortgage_121 : decode prog_14_method_108_code 121 = .ok (.iadd, 1) := by decide +kernel
theorem dX12_mortgage_122 : decode prog_14_method_108_code 122 = .ok (.putfield 623, 3) := by decide +kernel
theorem dX12_mortgage_125 : decode prog_14_method_108_code 125 = .ok (.aload_n 0, 1) := by decide +kernel
theorem dX12_mortgage_126 : decode prog_14_method_108_code 126 = .ok (.getfield 623, 3) := by decide +kernel
theorem dX12_mortgage_129 : decode prog_14_method_108_code 129 = .ok (.iconst 1, 1) := by decide +kernel
theorem dX12_mortgage_130 : decode prog_14_method_108_code 130 = .ok (.isub, 1) := by decide +kernel
theorem dX12_mortgage_131 : decode prog_14_method_108_code 131 = .ok (.ireturn, 1) := by decide +kernel
noncomputable def F_X12_mortgage (v1 : Int) (v2 : Int) (v3 : Int) (v4 : Int) (v5 : Int) (M : bM) : Option (Int × bM) :=
  b_bind (F_X12_isLot v1 M) (fun x1 => if x1 = 0 then (some ((-2), M)) else (b_bind (F_X12_isPerson v2 M) (fun x3 => if x3 = 0 then (some ((-2), M)) else (b_bind (F_X12_in v3 1 99999 M) (fun x5 => if x5 = 0 then (some ((-2), M)) else (b_bind (F_X12_isDay v4 M) (fun x7 => if x7 = 0 then (some ((-2), M)) else (b_bind (F_X12_in v5 v4 9999 M) (fun x9 => if x9 = 0 then (some ((-2), M)) else (if (M 11 99) = 40 then (some ((-3), M)) else (b_g (0 ≤ (M 11 99) ∧ (M 11 99) < 40) (b_let (b_up M 225 (M 11 99) v1) (fun M13 => b_g (0 ≤ (M13 11 99) ∧ (M13 11 99) < 40) (b_let (b_up M13 226 (M13 11 99) v2) (fun M15 => b_g (0 ≤ (M15 11 99) ∧ (M15 11 99) < 40) (b_let (b_up M15 227 (M15 11 99) v4) (fun M17 => b_g (0 ≤ (M17 11 99) ∧ (M17 11 99) < 40) (b_let (b_up M17 228 (M17 11 99) v5) (fun M19 => b_g (0 ≤ (M19 11 99) ∧ (M19 11 99) < 40) (b_let (b_up M19 229 (M19 11 99) (-1)) (fun M21 => b_g (b_i32 ((M21 11 99) + 1)) (b_let (b_up M21 11 99 ((M21 11 99) + 1)) (fun M23 => b_g (b_i32 ((M23 11 99) - 1)) (some (((M23 11 99) - 1), M23)))))))))))))))))))))))))
theorem t_X12_mortgage {l : Launch} {E : bE} {Q : (Int × bM) → Prop} {v1 : Int} {v2 : Int} {v3 : Int} {v4 : Int} {v5 : Int} {M : bM} (h : b_wp (F_X12_mortgage v1 v2 v3 v4 v5 M) (Q)) : V l E xX12_mortgage (0, 0) 0 [(0, bR 11), (1, bI v1), (2, bI v2), (3, bI v3), (4, bI v4), (5, bI v5)] [] M (b_pI Q) := by
  unfold F_X12_mortgage at h
  refine v_aload_n (f := 0) 0 rfl dX12_mortgage_0 ?_
  refine v_iload_n (f := 1) 1 rfl dX12_mortgage_1 ?_
  refine v_cVIp (nA := 1) (As := [bI _]) (ix := 385) (cf_X12_isLot (b_wp_b h)) rfl kd_11 rfl rfl wc_X12_isLot wm_12_385 wi_X12_isLot ws_X12_isLot wn_12 ⟨by decide, by decide, by decide⟩ rfl ⟨by decide, by decide⟩ ⟨by decide, by decide⟩ (Nat.le_of_ble_eq_true rfl) dX12_mortgage_2 (fun x1 h => ?_)
  refine v_if_eq (tgt := 48) dX12_mortgage_5 (by decide) (fun c2 => ?_) (fun c2 => ?_)
  · replace h := b_wp_t c2 h
    refine v_bipush ⟨by decide, by decide⟩ (by decide) dX12_mortgage_48 ?_
    refine v_ireturn rfl dX12_mortgage_50 ⟨by decide, by decide⟩ ?_
    exact ⟨_, rfl, h⟩
  · replace h := b_wp_f c2 h
    refine v_aload_n (f := 0) 0 rfl dX12_mortgage_8 ?_
    refine v_iload_n (f := 2) 2 rfl dX12_mortgage_9 ?_
    refine v_cVIp (nA := 1) (As := [bI _]) (ix := 356) (cf_X12_isPerson (b_wp_b h)) rfl kd_11 rfl rfl wc_X12_isPerson wm_12_356 wi_X12_isPerson ws_X12_isPerson wn_12 ⟨by decide, by decide, by decide⟩ rfl ⟨by decide, by decide⟩ ⟨by decide, by decide⟩ (Nat.le_of_ble_eq_true rfl) dX12_mortgage_10 (fun x3 h => ?_)
    refine v_if_eq (tgt := 48) dX12_mortgage_13 (by decide) (fun c4 => ?_) (fun c4 => ?_)
    · replace h := b_wp_t c4 h
      refine v_bipush ⟨by decide, by decide⟩ (by decide) dX12_mortgage_48 ?_
      refine v_ireturn rfl dX12_mortgage_50 ⟨by decide, by decide⟩ ?_
      exact ⟨_, rfl, h⟩
    · replace h := b_wp_f c4 h
      refine v_iload_n (f := 3) 3 rfl dX12_mortgage_16 ?_
      refine v_iconst ⟨by decide, by decide⟩ dX12_mortgage_17 ?_
      refine v_ldcw (n := 99999) ⟨by decide, by decide⟩ wk_12_622 dX12_mortgage_18 ?_
      refine v_cSIp (nA := 3) (As := [bI _, bI _, bI _]) (ix := 279) (cf_X12_in (b_wp_b h)) rfl wc_X12_in wm_12_279 wi_X12_in wn_12 ⟨by decide, by decide, by decide⟩ rfl ⟨by decide, by decide⟩ ⟨by decide, by decide⟩ (Nat.le_of_ble_eq_true rfl) dX12_mortgage_21 (fun x5 h => ?_)
      refine v_if_eq (tgt := 48) dX12_mortgage_24 (by decide) (fun c6 => ?_) (fun c6 => ?_)
      · replace h := b_wp_t c6 h
        refine v_bipush ⟨by decide, by decide⟩ (by decide) dX12_mortgage_48 ?_
        refine v_ireturn rfl dX12_mortgage_50 ⟨by decide, by decide⟩ ?_
        exact ⟨_, rfl, h⟩
      · replace h := b_wp_f c6 h
        refine v_iload (i := 4) 4 rfl dX12_mortgage_27 ?_
        refine v_cSIp (nA := 1) (As := [bI _]) (ix := 347) (cf_X12_isDay (b_wp_b h)) rfl wc_X12_isDay wm_12_347 wi_X12_isDay wn_12 ⟨by decide, by decide, by decide⟩ rfl ⟨by decide, by decide⟩ ⟨by decide, by decide⟩ (Nat.le_of_ble_eq_true rfl) dX12_mortgage_29 (fun x7 h => ?_)
        refine v_if_eq (tgt := 48) dX12_mortgage_32 (by decide) (fun c8 => ?_) (fun c8 => ?_)
        · replace h := b_wp_t c8 h
          refine v_bipush ⟨by decide, by decide⟩ (by decide) dX12_mortgage_48 ?_
          refine v_ireturn rfl dX12_mortgage_50 ⟨by decide, by decide⟩ ?_
          exact ⟨_, rfl, h⟩
        · replace h := b_wp_f c8 h
          refine v_iload (i := 5) 5 rfl dX12_mortgage_35 ?_
          refine v_iload (i := 4) 4 rfl dX12_mortgage_37 ?_
          refine v_sipush ⟨by decide, by decide⟩ (by decide) dX12_mortgage_39 ?_
          refine v_cSIp (nA := 3) (As := [bI _, bI _, bI _]) (ix := 279) (cf_X12_in (b_wp_b h)) rfl wc_X12_in wm_12_279 wi_X12_in wn_12 ⟨by decide, by decide, by decide⟩ rfl ⟨by decide, by decide⟩ ⟨by decide, by decide⟩ (Nat.le_of_ble_eq_true rfl) dX12_mortgage_42 (fun x9 h => ?_)
          refine v_if_ne (tgt := 51) dX12_mortgage_45 (by decide) (fun c10 => ?_) (fun c10 => ?_)
          · replace h := b_wp_f c10 h
            refine v_aload_n (f := 0) 0 rfl dX12_mortgage_51 ?_
            refine v_getI (kf := 99) (kz := 99) rfl kd_11 rfl ⟨by decide, by decide⟩ rfl wf_12_623 dX12_mortgage_52 ?_
            refine v_bipush ⟨by decide, by decide⟩ (by decide) dX12_mortgage_55 ?_
            refine v_icmp_ne (tgt := 63) dX12_mortgage_57 (by decide) (fun c11 => ?_) (fun c11 => ?_)
            · replace h := b_wp_f c11 h
              obtain ⟨g12, h⟩ := b_wp_g h
              refine v_aload_n (f := 0) 0 rfl dX12_mortgage_63 ?_
              refine v_getR (kf := 100) (kz := 100) rfl kd_11 rfl ⟨by decide, by decide⟩ rfl wf_12_209 dX12_mortgage_64 ?_
              refine v_aload_n (f := 0) 0 rfl dX12_mortgage_67 ?_
              refine v_getI (kf := 99) (kz := 99) rfl kd_11 rfl ⟨by decide, by decide⟩ rfl wf_12_623 dX12_mortgage_68 ?_
              refine v_iload_n (f := 1) 1 rfl dX12_mortgage_71 ?_
              refine v_iastore kd_225 g12 (by decide) dX12_mortgage_72 ?_
              replace h := b_wp_l h
              obtain ⟨g14, h⟩ := b_wp_g h
              refine v_aload_n (f := 0) 0 rfl dX12_mortgage_73 ?_
              refine v_getR (kf := 101) (kz := 101) rfl kd_11 rfl ⟨by decide, by decide⟩ rfl wf_12_212 dX12_mortgage_74 ?_
              refine v_aload_n (f := 0) 0 rfl dX12_mortgage_77 ?_
              refine v_getI (kf := 99) (kz := 99) rfl kd_11 rfl ⟨by decide, by decide⟩ rfl wf_12_623 dX12_mortgage_78 ?_
              refine v_iload_n (f := 2) 2 rfl dX12_mortgage_81 ?_
              refine v_iastore kd_226 g14 (by decide) dX12_mortgage_82 ?_
              replace h := b_wp_l h
              obtain ⟨g16, h⟩ := b_wp_g h
              refine v_aload_n (f := 0) 0 rfl dX12_mortgage_83 ?_
              refine v_getR (kf := 102) (kz := 102) rfl kd_11 rfl ⟨by decide, by decide⟩ rfl wf_12_215 dX12_mortgage_84 ?_
              refine v_aload_n (f := 0) 0 rfl dX12_mortgage_87 ?_
              refine v_getI (kf := 99) (kz := 99) rfl kd_11 rfl ⟨by decide, by decide⟩ rfl wf_12_623 dX12_mortgage_88 ?_
              refine v_iload (i := 4) 4 rfl dX12_mortgage_91 ?_
              refine v_iastore kd_227 g16 (by decide) dX12_mortgage_93 ?_
              replace h := b_wp_l h
              obtain ⟨g18, h⟩ := b_wp_g h
              refine v_aload_n (f := 0) 0 rfl dX12_mortgage_94 ?_
              refine v_getR (kf := 103) (kz := 103) rfl kd_11 rfl ⟨by decide, by decide⟩ rfl wf_12_218 dX12_mortgage_95 ?_
              refine v_aload_n (f := 0) 0 rfl dX12_mortgage_98 ?_
              refine v_getI (kf := 99) (kz := 99) rfl kd_11 rfl ⟨by decide, by decide⟩ rfl wf_12_623 dX12_mortgage_99 ?_
              refine v_iload (i := 5) 5 rfl dX12_mortgage_102 ?_
              refine v_iastore kd_228 g18 (by decide) dX12_mortgage_104 ?_
              replace h := b_wp_l h
              obtain ⟨g20, h⟩ := b_wp_g h
              refine v_aload_n (f := 0) 0 rfl dX12_mortgage_105 ?_
              refine v_getR (kf := 104) (kz := 104) rfl kd_11 rfl ⟨by decide, by decide⟩ rfl wf_12_221 dX12_mortgage_106 ?_
              refine v_aload_n (f := 0) 0 rfl dX12_mortgage_109 ?_
              refine v_getI (kf := 99) (kz := 99) rfl kd_11 rfl ⟨by decide, by decide⟩ rfl wf_12_623 dX12_mortgage_110 ?_
              refine v_iconst ⟨by decide, by decide⟩ dX12_mortgage_113 ?_
              refine v_iastore kd_229 g20 (by decide) dX12_mortgage_114 ?_
              replace h := b_wp_l h
              obtain ⟨g22, h⟩ := b_wp_g h
              refine v_aload_n (f := 0) 0 rfl dX12_mortgage_115 ?_
              refine v_dup rfl dX12_mortgage_116 ?_
              refine v_getI (kf := 99) (kz := 99) rfl kd_11 rfl ⟨by decide, by decide⟩ rfl wf_12_623 dX12_mortgage_117 ?_
              refine v_iconst ⟨by decide, by decide⟩ dX12_mortgage_120 ?_
              refine v_iaddN g22 dX12_mortgage_121 ?_
              refine v_putI (kf := 99) (kz := 99) rfl kd_11 rfl ⟨by decide, by decide⟩ rfl wf_12_623 rfl rfl dX12_mortgage_122 ?_
              replace h := b_wp_l h
              obtain ⟨g24, h⟩ := b_wp_g h
              refine v_aload_n (f := 0) 0 rfl dX12_mortgage_125 ?_
              refine v_getI (kf := 99) (kz := 99) rfl kd_11 rfl ⟨by decide, by decide⟩ rfl wf_12_623 dX12_mortgage_126 ?_
              refine v_iconst ⟨by decide, by decide⟩ dX12_mortgage_129 ?_
              refine v_isubN g24 dX12_mortgage_130 ?_
              refine v_ireturn rfl dX12_mortgage_131 ⟨by decide, by decide⟩ ?_
              exact ⟨_, rfl, h⟩
            · replace h := b_wp_t c11 h
              refine v_bipush ⟨by decide, by decide⟩ (by decide) dX12_mortgage_60 ?_
              refine v_ireturn rfl dX12_mortgage_62 ⟨by decide, by decide⟩ ?_
              exact ⟨_, rfl, h⟩
          · replace h := b_wp_t c10 h
            refine v_bipush ⟨by decide, by decide⟩ (by decide) dX12_mortgage_48 ?_
            refine v_ireturn rfl dX12_mortgage_50 ⟨by decide, by decide⟩ ?_
            exact ⟨_, rfl, h⟩
theorem cf_X12_mortgage {l : Launch} {E : bE} {M : bM} {v1 : Int} {v2 : Int} {v3 : Int} {v4 : Int} {v5 : Int} {Q : (Int × bM) → Prop} (h : b_wp (F_X12_mortgage v1 v2 v3 v4 v5 M) Q) : b_C l E xX12_mortgage yX12_mortgage [bR 11, bI v1, bI v2, bI v3, bI v4, bI v5] M (b_pI Q) := b_met (by decide) ⟨rfl, rfl⟩ (Nat.le_of_ble_eq_true rfl) (fun _ _ => t_X12_mortgage h)
abbrev xX12_isMortgage : bX := ("BurntHallModel", prog_14_method_109_code, 2, (Option.some Jvm.ClassFile.FieldType.boolean), b_rm 2 0 0, 0, "isMortgage")
abbrev yX12_isMortgage : MethodName := ⟨"BurntHallModel", "isMortgage", "(I)Z"⟩
theorem dX12_isMortgage_0 : decode prog_14_method_109_code 0 = .ok (.iload_n 1, 1) := by decide +kernel
theorem dX12_isMortgage_1 : decode prog_14_method_109_code 1 = .ok (.iconst 0, 1) := by decide +kernel
theorem dX12_isMortgage_2 : decode prog_14_method_109_code 2 = .ok (.aload_n 0, 1) := by decide +kernel
theorem dX12_isMortgage_3 : decode prog_14_method_109_code 3 = .ok (.getfield 623, 3) := by decide +kernel
theorem dX12_isMortgage_6 : decode prog_14_method_109_code 6 = .ok (.iconst 1, 1) := by decide +kernel
theorem dX12_isMortgage_7 : decode prog_14_method_109_code 7 = .ok (.isub, 1) := by decide +kernel
theorem dX12_isMortgage_8 : decode prog_14_method_109_code 8 = .ok (.invokestatic 279, 3) := by decide +kernel
theorem dX12_isMortgage_11 : decode prog_14_method_109_code 11 = .ok (.ireturn, 1) := by decide +kernel
noncomputable def F_X12_isMortgage (v1 : Int) (M : bM) : Option (Int) :=
  b_g (b_i32 ((M 11 99) - 1)) (b_bind (F_X12_in v1 0 ((M 11 99) - 1) M) (fun x2 => b_g (x2 = 0 ∨ x2 = 1) (some x2)))
theorem t_X12_isMortgage {l : Launch} {E : bE} {Q : Int → Prop} {v1 : Int} {M : bM} (h : b_wp (F_X12_isMortgage v1 M) (Q)) : V l E xX12_isMortgage (0, 0) 0 [(0, bR 11), (1, bI v1)] [] M (b_pIp M Q) := by
  unfold F_X12_isMortgage at h
  obtain ⟨g1, h⟩ := b_wp_g h
  refine v_iload_n (f := 1) 1 rfl dX12_isMortgage_0 ?_
  refine v_iconst ⟨by decide, by decide⟩ dX12_isMortgage_1 ?_
  refine v_aload_n (f := 0) 0 rfl dX12_isMortgage_2 ?_
  refine v_getI (kf := 99) (kz := 99) rfl kd_11 rfl ⟨by decide, by decide⟩ rfl wf_12_623 dX12_isMortgage_3 ?_
  refine v_iconst ⟨by decide, by decide⟩ dX12_isMortgage_6 ?_
  refine v_isubN g1 dX12_isMortgage_7 ?_
  refine v_cSIp (nA := 3) (As := [bI _, bI _, bI _]) (ix := 279) (cf_X12_in (b_wp_b h)) rfl wc_X12_in wm_12_279 wi_X12_in wn_12 ⟨by decide, by decide, by decide⟩ rfl ⟨by decide, by decide⟩ ⟨by decide, by decide⟩ (Nat.le_of_ble_eq_true rfl) dX12_isMortgage_8 (fun x2 h => ?_)
  obtain ⟨g3, h⟩ := b_wp_g h
  refine v_zreturn rfl g3 dX12_isMortgage_11 ⟨by decide, by decide⟩ ?_
  exact ⟨_, rfl, rfl, h⟩
theorem cf_X12_isMortgage {l : Launch} {E : bE} {M : bM} {v1 : Int} {Q : Int → Prop} (h : b_wp (F_X12_isMortgage v1 M) Q) : b_C l E xX12_isMortgage yX12_isMortgage [bR 11, bI v1] M (b_pIp M Q) := b_met (by decide) ⟨rfl, rfl⟩ (Nat.le_of_ble_eq_true rfl) (fun _ _ => t_X12_isMortgage h)
abbrev xX12_paid : bX := ("BurntHallModel", prog_14_method_110_code, 3, (Option.some Jvm.ClassFile.FieldType.int), b_rm 3 0 0, 0, "paid")
abbrev yX12_paid : MethodName := ⟨"BurntHallModel", "paid", "(II)I"⟩
theorem dX12_paid_0 : decode prog_14_method_110_code 0 = .ok (.aload_n 0, 1) := by decide +kernel
theorem dX12_paid_1 : decode prog_14_method_110_code 1 = .ok (.iload_n 1, 1) := by decide +kernel
theorem dX12_paid_2 : decode prog_14_method_110_code 2 = .ok (.invokevirtual 626, 3) := by decide +kernel
theorem dX12_paid_5 : decode prog_14_method_110_code 5 = .ok (.ifCond .eq 10, 3) := by decide +kernel
theorem dX12_paid_8 : decode prog_14_method_110_code 8 = .ok (.iload_n 2, 1) := by decide +kernel
theorem dX12_paid_9 : decode prog_14_method_110_code 9 = .ok (.invokestatic 347, 3) := by decide +kernel
theorem dX12_paid_12 : decode prog_14_method_110_code 12 = .ok (.ifCond .ne 6, 3) := by decide +kernel
theorem dX12_paid_15 : decode prog_14_method_110_code 15 = .ok (.bipush (-2), 2) := by decide +kernel
theorem dX12_paid_17 : decode prog_14_method_110_code 17 = .ok (.ireturn, 1) := by decide +kernel
theorem dX12_paid_18 : decode prog_14_method_110_code 18 = .ok (.aload_n 0, 1) := by decide +kernel
theorem dX12_paid_19 : decode prog_14_method_110_code 19 = .ok (.getfield 221, 3) := by decide +kernel
theorem dX12_paid_22 : decode prog_14_method_110_code 22 = .ok (.iload_n 1, 1) := by decide +kernel
theorem dX12_paid_23 : decode prog_14_method_110_code 23 = .ok (.iaload, 1) := by decide +kernel
theorem dX12_paid_24 : decode prog_14_method_110_code 24 = .ok (.iconst (-1), 1) := by decide +kernel
theorem dX12_paid_25 : decode prog_14_method_110_code 25 = .ok (.if_icmp .eq 6, 3) := by decide +kernel
theorem dX12_paid_28 : decode prog_14_method_110_code 28 = .ok (.bipush (-4), 2) := by decide +kernel
theorem dX12_paid_30 : decode prog_14_method_110_code 30 = .ok (.ireturn, 1) := by decide +kernel
theorem dX12_paid_31 : decode prog_14_method_110_code 31 = .ok (.aload_n 0, 1) := by decide +kernel
theorem dX12_paid_32 : decode prog_14_method_110_code 32 = .ok (.getfield 221, 3) := by decide +kernel
theorem dX12_paid_35 : decode prog_14_method_110_code 35 = .ok (.iload_n 1, 1) := by decide +kernel
theorem dX12_paid_36 : decode prog_14_method_110_code 36 = .ok (.iload_n 2, 1) := by decide +kernel
theorem dX12_paid_37 : decode prog_14_method_110_code 37 = .ok (.iastore, 1) := by decide +kernel
theorem dX12_paid_38 : decode prog_14_method_110_code 38 = .ok (.aload_n 0, 1) := by decide +kernel
theorem dX12_paid_39 : decode prog_14_method_110_code 39 = .ok (.getfield 224, 3) := by decide +kernel
theorem dX12_paid_42 : decode prog_14_method_110_code 42 = .ok (.iload_n 1, 1) := by decide +kernel
theorem dX12_paid_43 : decode prog_14_method_110_code 43 = .ok (.aload_n 0, 1) := by decide +kernel
theorem dX12_paid_44 : decode prog_14_method_110_code 44 = .ok (.getfield 344, 3) := by decide +kernel
theorem dX12_paid_47 : decode prog_14_method_110_code 47 = .ok (.iastore, 1) := by decide +kernel
theorem dX12_paid_48 : decode prog_14_method_110_code 48 = .ok (.iconst 1, 1) := by decide +kernel
theorem dX12_paid_49 : decode prog_14_method_110_code 49 = .ok (.ireturn, 1) := by decide +kernel
noncomputable def F_X12_paid (v1 : Int) (v2 : Int) (M : bM) : Option (Int × bM) :=
  b_bind (F_X12_isMortgage v1 M) (fun x1 => if x1 = 0 then (some ((-2), M)) else (b_bind (F_X12_isDay v2 M) (fun x3 => if x3 = 0 then (some ((-2), M)) else (b_g (0 ≤ v1 ∧ v1 < 40) (if (M 229 v1) = (-1) then (b_g (0 ≤ v1 ∧ v1 < 40) (b_let (b_up M 229 v1 v2) (fun M8 => b_g (0 ≤ v1 ∧ v1 < 40) (b_let (b_up M8 230 v1 (M8 11 11)) (fun M10 => some (1, M10)))))) else (some ((-4), M)))))))
theorem t_X12_paid {l : Launch} {E : bE} {Q : (Int × bM) → Prop} {v1 : Int} {v2 : Int} {M : bM} (h : b_wp (F_X12_paid v1 v2 M) (Q)) : V l E xX12_paid (0, 0) 0 [(0, bR 11), (1, bI v1), (2, bI v2)] [] M (b_pI Q) := by
  unfold F_X12_paid at h
  refine v_aload_n (f := 0) 0 rfl dX12_paid_0 ?_
  refine v_iload_n (f := 1) 1 rfl dX12_paid_1 ?_
  refine v_cVIp (nA := 1) (As := [bI _]) (ix := 626) (cf_X12_isMortgage (b_wp_b h)) rfl kd_11 rfl rfl wc_X12_isMortgage wm_12_626 wi_X12_isMortgage ws_X12_isMortgage wn_12 ⟨by decide, by decide, by decide⟩ rfl ⟨by decide, by decide⟩ ⟨by decide, by decide⟩ (Nat.le_of_ble_eq_true rfl) dX12_paid_2 (fun x1 h => ?_)
  refine v_if_eq (tgt := 15) dX12_paid_5 (by decide) (fun c2 => ?_) (fun c2 => ?_)
  · replace h := b_wp_t c2 h
    refine v_bipush ⟨by decide, by decide⟩ (by decide) dX12_paid_15 ?_
    refine v_ireturn rfl dX12_paid_17 ⟨by decide, by decide⟩ ?_
    exact ⟨_, rfl, h⟩
  · replace h := b_wp_f c2 h
    refine v_iload_n (f := 2) 2 rfl dX12_paid_8 ?_
    refine v_cSIp (nA := 1) (As := [bI _]) (ix := 347) (cf_X12_isDay (b_wp_b h)) rfl wc_X12_isDay wm_12_347 wi_X12_isDay wn_12 ⟨by decide, by decide, by decide⟩ rfl ⟨by decide, by decide⟩ ⟨by decide, by decide⟩ (Nat.le_of_ble_eq_true rfl) dX12_paid_9 (fun x3 h => ?_)
    refine v_if_ne (tgt := 18) dX12_paid_12 (by decide) (fun c4 => ?_) (fun c4 => ?_)
    · replace h := b_wp_f c4 h
      obtain ⟨g5, h⟩ := b_wp_g h
      refine v_aload_n (f := 0) 0 rfl dX12_paid_18 ?_
      refine v_getR (kf := 104) (kz := 104) rfl kd_11 rfl ⟨by decide, by decide⟩ rfl wf_12_221 dX12_paid_19 ?_
      refine v_iload_n (f := 1) 1 rfl dX12_paid_22 ?_
      refine v_iaload kd_229 g5 (by decide) dX12_paid_23 ?_
      refine v_iconst ⟨by decide, by decide⟩ dX12_paid_24 ?_
      refine v_icmp_eq (tgt := 31) dX12_paid_25 (by decide) (fun c6 => ?_) (fun c6 => ?_)
      · replace h := b_wp_t c6 h
        obtain ⟨g7, h⟩ := b_wp_g h
        refine v_aload_n (f := 0) 0 rfl dX12_paid_31 ?_
        refine v_getR (kf := 104) (kz := 104) rfl kd_11 rfl ⟨by decide, by decide⟩ rfl wf_12_221 dX12_paid_32 ?_
        refine v_iload_n (f := 1) 1 rfl dX12_paid_35 ?_
        refine v_iload_n (f := 2) 2 rfl dX12_paid_36 ?_
        refine v_iastore kd_229 g7 (by decide) dX12_paid_37 ?_
        replace h := b_wp_l h
        obtain ⟨g9, h⟩ := b_wp_g h
        refine v_aload_n (f := 0) 0 rfl dX12_paid_38 ?_
        refine v_getR (kf := 105) (kz := 105) rfl kd_11 rfl ⟨by decide, by decide⟩ rfl wf_12_224 dX12_paid_39 ?_
        refine v_iload_n (f := 1) 1 rfl dX12_paid_42 ?_
        refine v_aload_n (f := 0) 0 rfl dX12_paid_43 ?_
        refine v_getI (kf := 11) (kz := 11) rfl kd_11 rfl ⟨by decide, by decide⟩ rfl wf_12_344 dX12_paid_44 ?_
        refine v_iastore kd_230 g9 (by decide) dX12_paid_47 ?_
        replace h := b_wp_l h
        refine v_iconst ⟨by decide, by decide⟩ dX12_paid_48 ?_
        refine v_ireturn rfl dX12_paid_49 ⟨by decide, by decide⟩ ?_
        exact ⟨_, rfl, h⟩
      · replace h := b_wp_f c6 h
        refine v_bipush ⟨by decide, by decide⟩ (by decide) dX12_paid_28 ?_
        refine v_ireturn rfl dX12_paid_30 ⟨by decide, by decide⟩ ?_
        exact ⟨_, rfl, h⟩
    · replace h := b_wp_t c4 h
      refine v_bipush ⟨by decide, by decide⟩ (by decide) dX12_paid_15 ?_
      refine v_ireturn rfl dX12_paid_17 ⟨by decide, by decide⟩ ?_
      exact ⟨_, rfl, h⟩
theorem cf_X12_paid {l : Launch} {E : bE} {M : bM} {v1 : Int} {v2 : Int} {Q : (Int × bM) → Prop} (h : b_wp (F_X12_paid v1 v2 M) Q) : b_C l E xX12_paid yX12_paid [bR 11, bI v1, bI v2] M (b_pI Q) := b_met (by decide) ⟨rfl, rfl⟩ (Nat.le_of_ble_eq_true rfl) (fun _ _ => t_X12_paid h)
abbrev xX12_isStanding : bX := ("BurntHallModel", prog_14_method_111_code, 4, (Option.some Jvm.ClassFile.FieldType.boolean), b_rm 3 0 0, 0, "isStanding")
abbrev yX12_isStanding : MethodName := ⟨"BurntHallModel", "isStanding", "(III)Z"⟩
theorem dX12_isStanding_0 : decode prog_14_method_111_code 0 = .ok (.aload_n 0, 1) := by decide +kernel
theorem dX12_isStanding_1 : decode prog_14_method_111_code 1 = .ok (.getfield 215, 3) := by decide +kernel
theorem dX12_isStanding_4 : decode prog_14_method_111_code 4 = .ok (.iload_n 1, 1) := by decide +kernel
theorem dX12_isStanding_5 : decode prog_14_method_111_code 5 = .ok (.iaload, 1) := by decide +kernel
theorem dX12_isStanding_6 : decode prog_14_method_111_code 6 = .ok (.iload_n 2, 1) := by decide +kernel
theorem dX12_isStanding_7 : decode prog_14_method_111_code 7 = .ok (.if_icmp .gt 25, 3) := by decide +kernel
theorem dX12_isStanding_10 : decode prog_14_method_111_code 10 = .ok (.iload_n 2, 1) := by decide +kernel
theorem dX12_isStanding_11 : decode prog_14_method_111_code 11 = .ok (.aload_n 0, 1) := by decide +kernel
theorem dX12_isStanding_12 : decode prog_14_method_111_code 12 = .ok (.getfield 218, 3) := by decide +kernel
theorem dX12_isStanding_15 : decode prog_14_method_111_code 15 = .ok (.iload_n 1, 1) := by decide +kernel
theorem dX12_isStanding_16 : decode prog_14_method_111_code 16 = .ok (.iaload, 1) := by decide +kernel
theorem dX12_isStanding_17 : decode prog_14_method_111_code 17 = .ok (.isub, 1) := by decide +kernel
theorem dX12_isStanding_18 : decode prog_14_method_111_code 18 = .ok (.sipush 365, 3) := by decide +kernel
theorem dX12_isStanding_21 : decode prog_14_method_111_code 21 = .ok (.aload_n 0, 1) := by decide +kernel
theorem dX12_isStanding_22 : decode prog_14_method_111_code 22 = .ok (.iload_n 3, 1) := by decide +kernel
theorem dX12_isStanding_23 : decode prog_14_method_111_code 23 = .ok (.bipush 6, 2) := by decide +kernel
theorem dX12_isStanding_25 : decode prog_14_method_111_code 25 = .ok (.invokevirtual 493, 3) := by decide +kernel
theorem dX12_isStanding_28 : decode prog_14_method_111_code 28 = .ok (.imul, 1) := by decide +kernel
theorem dX12_isStanding_29 : decode prog_14_method_111_code 29 = .ok (.if_icmp .le 5, 3) := by decide +kernel
theorem dX12_isStanding_32 : decode prog_14_method_111_code 32 = .ok (.iconst 0, 1) := by decide +kernel
theorem dX12_isStanding_33 : decode prog_14_method_111_code 33 = .ok (.ireturn, 1) := by decide +kernel
theorem dX12_isStanding_34 : decode prog_14_method_111_code 34 = .ok (.aload_n 0, 1) := by decide +kernel
theorem dX12_isStanding_35 : decode prog_14_method_111_code 35 = .ok (.getfield 221, 3) := by decide +kernel
theorem dX12_isStanding_38 : decode prog_14_method_111_code 38 = .ok (.iload_n 1, 1) := by decide +kernel
theorem dX12_isStanding_39 : decode prog_14_method_111_code 39 = .ok (.iaload, 1) := by decide +kernel
theorem dX12_isStanding_40 : decode prog_14_method_111_code 40 = .ok (.iconst (-1), 1) := by decide +kernel
theorem dX12_isStanding_41 : decode prog_14_method_111_code 41 = .ok (.if_icmp .eq 23, 3) := by decide +kernel
theorem dX12_isStanding_44 : decode prog_14_method_111_code 44 = .ok (.aload_n 0, 1) := by decide +kernel
theorem dX12_isStanding_45 : decode prog_14_method_111_code 45 = .ok (.getfield 221, 3) := by decide +kernel
theorem dX12_isStanding_48 : decode prog_14_method_111_code 48 = .ok (.iload_n 1, 1) := by decide +kernel
theorem dX12_isStanding_49 : decode prog_14_method_111_code 49 = .ok (.iaload, 1) := by decide +kernel
theorem dX12_isStanding_50 : decode prog_14_method_111_code 50 = .ok (.iload_n 2, 1) := by decide +kernel
theorem dX12_isStanding_51 : decode prog_14_method_111_code 51 = .ok (.if_icmp .gt 13, 3) := by decide +kernel
theorem dX12_isStanding_54 : decode prog_14_method_111_code 54 = .ok (.aload_n 0, 1) := by decide +kernel
theorem dX12_isStanding_55 : decode prog_14_method_111_code 55 = .ok (.getfield 224, 3) := by decide +kernel
theorem dX12_isStanding_58 : decode prog_14_method_111_code 58 = .ok (.iload_n 1, 1) := by decide +kernel
theorem dX12_isStanding_59 : decode prog_14_method_111_code 59 = .ok (.iaload, 1) := by decide +kernel
theorem dX12_isStanding_60 : decode prog_14_method_111_code 60 = .ok (.iload_n 3, 1) := by decide +kernel
theorem dX12_isStanding_61 : decode prog_14_method_111_code 61 = .ok (.if_icmp .le 7, 3) := by decide +kernel
theorem dX12_isStanding_64 : decode prog_14_method_111_code 64 = .ok (.iconst 1, 1) := by decide +kernel
theorem dX12_isStanding_65 : decode prog_14_method_111_code 65 = .ok (.goto 4, 3) := by decide +kernel
theorem dX12_isStanding_68 : decode prog_14_method_111_code 68 = .ok (.iconst 0, 1) := by decide +kernel
theorem dX12_isStanding_69 : decode prog_14_method_111_code 69 = .ok (.ireturn, 1) := by decide +kernel
noncomputable def F_X12_isStanding (v1 : Int) (v2 : Int) (v3 : Int) (M : bM) : Option (Int) :=
  b_g (0 ≤ v1 ∧ v1 < 40) (if v2 < (M 227 v1) then (some 0) else (b_g ((0 ≤ v1 ∧ v1 < 40) ∧ (b_i32 (v2 - (M 228 v1)))) (b_bind (F_X12_ruleOn v3 6 M) (fun x5 => b_g (b_i32 (365 * x5)) (if (v2 - (M 228 v1)) ≤ (365 * x5) then (b_g (0 ≤ v1 ∧ v1 < 40) (if (M 229 v1) = (-1) then (some 1) else (b_g (0 ≤ v1 ∧ v1 < 40) (if v2 < (M 229 v1) then (some 1) else (b_g (0 ≤ v1 ∧ v1 < 40) (if (M 230 v1) ≤ v3 then (some 0) else (some 1))))))) else (some 0))))))
theorem t_X12_isStanding {l : Launch} {E : bE} {Q : Int → Prop} {v1 : Int} {v2 : Int} {v3 : Int} {M : bM} (h : b_wp (F_X12_isStanding v1 v2 v3 M) (Q)) : V l E xX12_isStanding (0, 0) 0 [(0, bR 11), (1, bI v1), (2, bI v2), (3, bI v3)] [] M (b_pIp M Q) := by
  unfold F_X12_isStanding at h
  obtain ⟨g1, h⟩ := b_wp_g h
  refine v_aload_n (f := 0) 0 rfl dX12_isStanding_0 ?_
  refine v_getR (kf := 102) (kz := 102) rfl kd_11 rfl ⟨by decide, by decide⟩ rfl wf_12_215 dX12_isStanding_1 ?_
  refine v_iload_n (f := 1) 1 rfl dX12_isStanding_4 ?_
  refine v_iaload kd_227 g1 (by decide) dX12_isStanding_5 ?_
  refine v_iload_n (f := 2) 2 rfl dX12_isStanding_6 ?_
  refine v_icmp_gt (tgt := 32) dX12_isStanding_7 (by decide) (fun c2 => ?_) (fun c2 => ?_)
  · replace h := b_wp_t c2 h
    refine v_iconst ⟨by decide, by decide⟩ dX12_isStanding_32 ?_
    refine v_zreturn rfl (Or.inl rfl) dX12_isStanding_33 ⟨by decide, by decide⟩ ?_
    exact ⟨_, rfl, rfl, h⟩
  · replace h := b_wp_f c2 h
    obtain ⟨⟨g3, g4⟩, h⟩ := b_wp_g h
    refine v_iload_n (f := 2) 2 rfl dX12_isStanding_10 ?_
    refine v_aload_n (f := 0) 0 rfl dX12_isStanding_11 ?_
    refine v_getR (kf := 103) (kz := 103) rfl kd_11 rfl ⟨by decide, by decide⟩ rfl wf_12_218 dX12_isStanding_12 ?_
    refine v_iload_n (f := 1) 1 rfl dX12_isStanding_15 ?_
    refine v_iaload kd_228 g3 (by decide) dX12_isStanding_16 ?_
    refine v_isubN g4 dX12_isStanding_17 ?_
    refine v_sipush ⟨by decide, by decide⟩ (by decide) dX12_isStanding_18 ?_
    refine v_aload_n (f := 0) 0 rfl dX12_isStanding_21 ?_
    refine v_iload_n (f := 3) 3 rfl dX12_isStanding_22 ?_
    refine v_bipush ⟨by decide, by decide⟩ (by decide) dX12_isStanding_23 ?_
    refine v_cVIp (nA := 2) (As := [bI _, bI _]) (ix := 493) (cf_X12_ruleOn (b_wp_b h)) rfl kd_11 rfl rfl wc_X12_ruleOn wm_12_493 wi_X12_ruleOn ws_X12_ruleOn wn_12 ⟨by decide, by decide, by decide⟩ rfl ⟨by decide, by decide⟩ ⟨by decide, by decide⟩ (Nat.le_of_ble_eq_true rfl) dX12_isStanding_25 (fun x5 h => ?_)
    obtain ⟨g6, h⟩ := b_wp_g h
    refine v_imulN g6 dX12_isStanding_28 ?_
    refine v_icmp_le (tgt := 34) dX12_isStanding_29 (by decide) (fun c7 => ?_) (fun c7 => ?_)
    · replace h := b_wp_t c7 h
      obtain ⟨g8, h⟩ := b_wp_g h
      refine v_aload_n (f := 0) 0 rfl dX12_isStanding_34 ?_
      refine v_getR (kf := 104) (kz := 104) rfl kd_11 rfl ⟨by decide, by decide⟩ rfl wf_12_221 dX12_isStanding_35 ?_
      refine v_iload_n (f := 1) 1 rfl dX12_isStanding_38 ?_
      refine v_iaload kd_229 g8 (by decide) dX12_isStanding_39 ?_
      refine v_iconst ⟨by decide, by decide⟩ dX12_isStanding_40 ?_
      refine v_icmp_eq (tgt := 64) dX12_isStanding_41 (by decide) (fun c9 => ?_) (fun c9 => ?_)
      · replace h := b_wp_t c9 h
        refine v_iconst ⟨by decide, by decide⟩ dX12_isStanding_64 ?_
        refine v_goto (tgt := 69) dX12_isStanding_65 (by decide) ?_
        refine v_zreturn rfl (Or.inr rfl) dX12_isStanding_69 ⟨by decide, by decide⟩ ?_
        exact ⟨_, rfl, rfl, h⟩
      · replace h := b_wp_f c9 h
        obtain ⟨g10, h⟩ := b_wp_g h
        refine v_aload_n (f := 0) 0 rfl dX12_isStanding_44 ?_
        refine v_getR (kf := 104) (kz := 104) rfl kd_11 rfl ⟨by decide, by decide⟩ rfl wf_12_221 dX12_isStanding_45 ?_
        refine v_iload_n (f := 1) 1 rfl dX12_isStanding_48 ?_
        refine v_iaload kd_229 g10 (by decide) dX12_isStanding_49 ?_
        refine v_iload_n (f := 2) 2 rfl dX12_isStanding_50 ?_
        refine v_icmp_gt (tgt := 64) dX12_isStanding_51 (by decide) (fun c11 => ?_) (fun c11 => ?_)
        · replace h := b_wp_t c11 h
          refine v_iconst ⟨by decide, by decide⟩ dX12_isStanding_64 ?_
          refine v_goto (tgt := 69) dX12_isStanding_65 (by decide) ?_
          refine v_zreturn rfl (Or.inr rfl) dX12_isStanding_69 ⟨by decide, by decide⟩ ?_
          exact ⟨_, rfl, rfl, h⟩
        · replace h := b_wp_f c11 h
          obtain ⟨g12, h⟩ := b_wp_g h
          refine v_aload_n (f := 0) 0 rfl dX12_isStanding_54 ?_
          refine v_getR (kf := 105) (kz := 105) rfl kd_11 rfl ⟨by decide, by decide⟩ rfl wf_12_224 dX12_isStanding_55 ?_
          refine v_iload_n (f := 1) 1 rfl dX12_isStanding_58 ?_
          refine v_iaload kd_230 g12 (by decide) dX12_isStanding_59 ?_
          refine v_iload_n (f := 3) 3 rfl dX12_isStanding_60 ?_
          refine v_icmp_le (tgt := 68) dX12_isStanding_61 (by decide) (fun c13 => ?_) (fun c13 => ?_)
          · replace h := b_wp_t c13 h
            refine v_iconst ⟨by decide, by decide⟩ dX12_isStanding_68 ?_
            refine v_zreturn rfl (Or.inl rfl) dX12_isStanding_69 ⟨by decide, by decide⟩ ?_
            exact ⟨_, rfl, rfl, h⟩
          · replace h := b_wp_f c13 h
            refine v_iconst ⟨by decide, by decide⟩ dX12_isStanding_64 ?_
            refine v_goto (tgt := 69) dX12_isStanding_65 (by decide) ?_
            refine v_zreturn rfl (Or.inr rfl) dX12_isStanding_69 ⟨by decide, by decide⟩ ?_
            exact ⟨_, rfl, rfl, h⟩
    · replace h := b_wp_f c7 h
      refine v_iconst ⟨by decide, by decide⟩ dX12_isStanding_32 ?_
      refine v_zreturn rfl (Or.inl rfl) dX12_isStanding_33 ⟨by decide, by decide⟩ ?_
      exact ⟨_, rfl, rfl, h⟩
theorem cf_X12_isStanding {l : Launch} {E : bE} {M : bM} {v1 : Int} {v2 : Int} {v3 : Int} {Q : Int → Prop} (h : b_wp (F_X12_isStanding v1 v2 v3 M) Q) : b_C l E xX12_isStanding yX12_isStanding [bR 11, bI v1, bI v2, bI v3] M (b_pIp M Q) := b_met (by decide) ⟨rfl, rfl⟩ (Nat.le_of_ble_eq_true rfl) (fun _ _ => t_X12_isStanding h)
abbrev xX12_stands : bX := ("BurntHallModel", prog_14_method_112_code, 4, (Option.some Jvm.ClassFile.FieldType.int), b_rm 4 0 0, 0, "stands")
abbrev yX12_stands : MethodName := ⟨"BurntHallModel", "stands", "(III)I"⟩
theorem dX12_stands_0 : decode prog_14_method_112_code 0 = .ok (.aload_n 0, 1) := by decide +kernel
theorem dX12_stands_1 : decode prog_14_method_112_code 1 = .ok (.iload_n 1, 1) := by decide +kernel
theorem dX12_stands_2 : decode prog_14_method_112_code 2 = .ok (.invokevirtual 626, 3) := by decide +kernel
theorem dX12_stands_5 : decode prog_14_method_112_code 5 = .ok (.ifCond .eq 35, 3) := by decide +kernel
theorem dX12_stands_8 : decode prog_14_method_112_code 8 = .ok (.iload_n 2, 1) := by decide +kernel
theorem dX12_stands_9 : decode prog_14_method_112_code 9 = .ok (.invokestatic 347, 3) := by decide +kernel
theorem dX12_stands_12 : decode prog_14_method_112_code 12 = .ok (.ifCond .eq 28, 3) := by decide +kernel
theorem dX12_stands_15 : decode prog_14_method_112_code 15 = .ok (.iload_n 3, 1) := by decide +kernel
theorem dX12_stands_16 : decode prog_14_method_112_code 16 = .ok (.invokestatic 347, 3) := by decide +kernel
theorem dX12_stands_19 : decode prog_14_method_112_code 19 = .ok (.ifCond .eq 21, 3) := by decide +kernel
theorem dX12_stands_22 : decode prog_14_method_112_code 22 = .ok (.aload_n 0, 1) := by decide +kernel
theorem dX12_stands_23 : decode prog_14_method_112_code 23 = .ok (.iload_n 1, 1) := by decide +kernel
theorem dX12_stands_24 : decode prog_14_method_112_code 24 = .ok (.iload_n 2, 1) := by decide +kernel
theorem dX12_stands_25 : decode prog_14_method_112_code 25 = .ok (.iload_n 3, 1) := by decide +kernel
theorem dX12_stands_26 : decode prog_14_method_112_code 26 = .ok (.invokevirtual 629, 3) := by decide +kernel
theorem dX12_stands_29 : decode prog_14_method_112_code 29 = .ok (.ifCond .eq 7, 3) := by decide +kernel
theorem dX12_stands_32 : decode prog_14_method_112_code 32 = .ok (.iconst 1, 1) := by decide +kernel
theorem dX12_stands_33 : decode prog_14_method_112_code 33 = .ok (.goto 9, 3) := by decide +kernel
theorem dX12_stands_36 : decode prog_14_method_112_code 36 = .ok (.iconst 0, 1) := by decide +kernel
theorem dX12_stands_37 : decode prog_14_method_112_code 37 = .ok (.goto 5, 3) := by decide +kernel
theorem dX12_stands_40 : decode prog_14_method_112_code 40 = .ok (.bipush (-2), 2) := by decide +kernel
theorem dX12_stands_42 : decode prog_14_method_112_code 42 = .ok (.ireturn, 1) := by decide +kernel
noncomputable def F_X12_stands (v1 : Int) (v2 : Int) (v3 : Int) (M : bM) : Option (Int) :=
  b_bind (F_X12_isMortgage v1 M) (fun x1 => if x1 = 0 then (some (-2)) else (b_bind (F_X12_isDay v2 M) (fun x3 => if x3 = 0 then (some (-2)) else (b_bind (F_X12_isDay v3 M) (fun x5 => if x5 = 0 then (some (-2)) else (b_bind (F_X12_isStanding v1 v2 v3 M) (fun x7 => if x7 = 0 then (some 0) else (some 1))))))))
theorem t_X12_stands {l : Launch} {E : bE} {Q : Int → Prop} {v1 : Int} {v2 : Int} {v3 : Int} {M : bM} (h : b_wp (F_X12_stands v1 v2 v3 M) (Q)) : V l E xX12_stands (0, 0) 0 [(0, bR 11), (1, bI v1), (2, bI v2), (3, bI v3)] [] M (b_pIp M Q) := by
  unfold F_X12_stands at h
  refine v_aload_n (f := 0) 0 rfl dX12_stands_0 ?_
  refine v_iload_n (f := 1) 1 rfl dX12_stands_1 ?_
  refine v_cVIp (nA := 1) (As := [bI _]) (ix := 626) (cf_X12_isMortgage (b_wp_b h)) rfl kd_11 rfl rfl wc_X12_isMortgage wm_12_626 wi_X12_isMortgage ws_X12_isMortgage wn_12 ⟨by decide, by decide, by decide⟩ rfl ⟨by decide, by decide⟩ ⟨by decide, by decide⟩ (Nat.le_of_ble_eq_true rfl) dX12_stands_2 (fun x1 h => ?_)
  refine v_if_eq (tgt := 40) dX12_stands_5 (by decide) (fun c2 => ?_) (fun c2 => ?_)
  · replace h := b_wp_t c2 h
    refine v_bipush ⟨by decide, by decide⟩ (by decide) dX12_stands_40 ?_
    refine v_ireturn rfl dX12_stands_42 ⟨by decide, by decide⟩ ?_
    exact ⟨_, rfl, rfl, h⟩
  · replace h := b_wp_f c2 h
    refine v_iload_n (f := 2) 2 rfl dX12_stands_8 ?_
    refine v_cSIp (nA := 1) (As := [bI _]) (ix := 347) (cf_X12_isDay (b_wp_b h)) rfl wc_X12_isDay wm_12_347 wi_X12_isDay wn_12 ⟨by decide, by decide, by decide⟩ rfl ⟨by decide, by decide⟩ ⟨by decide, by decide⟩ (Nat.le_of_ble_eq_true rfl) dX12_stands_9 (fun x3 h => ?_)
    refine v_if_eq (tgt := 40) dX12_stands_12 (by decide) (fun c4 => ?_) (fun c4 => ?_)
    · replace h := b_wp_t c4 h
      refine v_bipush ⟨by decide, by decide⟩ (by decide) dX12_stands_40 ?_
      refine v_ireturn rfl dX12_stands_42 ⟨by decide, by decide⟩ ?_
      exact ⟨_, rfl, rfl, h⟩
    · replace h := b_wp_f c4 h
      refine v_iload_n (f := 3) 3 rfl dX12_stands_15 ?_
      refine v_cSIp (nA := 1) (As := [bI _]) (ix := 347) (cf_X12_isDay (b_wp_b h)) rfl wc_X12_isDay wm_12_347 wi_X12_isDay wn_12 ⟨by decide, by decide, by decide⟩ rfl ⟨by decide, by decide⟩ ⟨by decide, by decide⟩ (Nat.le_of_ble_eq_true rfl) dX12_stands_16 (fun x5 h => ?_)
      refine v_if_eq (tgt := 40) dX12_stands_19 (by decide) (fun c6 => ?_) (fun c6 => ?_)
      · replace h := b_wp_t c6 h
        refine v_bipush ⟨by decide, by decide⟩ (by decide) dX12_stands_40 ?_
        refine v_ireturn rfl dX12_stands_42 ⟨by decide, by decide⟩ ?_
        exact ⟨_, rfl, rfl, h⟩
      · replace h := b_wp_f c6 h
        refine v_aload_n (f := 0) 0 rfl dX12_stands_22 ?_
        refine v_iload_n (f := 1) 1 rfl dX12_stands_23 ?_
        refine v_iload_n (f := 2) 2 rfl dX12_stands_24 ?_
        refine v_iload_n (f := 3) 3 rfl dX12_stands_25 ?_
        refine v_cVIp (nA := 3) (As := [bI _, bI _, bI _]) (ix := 629) (cf_X12_isStanding (b_wp_b h)) rfl kd_11 rfl rfl wc_X12_isStanding wm_12_629 wi_X12_isStanding ws_X12_isStanding wn_12 ⟨by decide, by decide, by decide⟩ rfl ⟨by decide, by decide⟩ ⟨by decide, by decide⟩ (Nat.le_of_ble_eq_true rfl) dX12_stands_26 (fun x7 h => ?_)
        refine v_if_eq (tgt := 36) dX12_stands_29 (by decide) (fun c8 => ?_) (fun c8 => ?_)
        · replace h := b_wp_t c8 h
          refine v_iconst ⟨by decide, by decide⟩ dX12_stands_36 ?_
          refine v_goto (tgt := 42) dX12_stands_37 (by decide) ?_
          refine v_ireturn rfl dX12_stands_42 ⟨by decide, by decide⟩ ?_
          exact ⟨_, rfl, rfl, h⟩
        · replace h := b_wp_f c8 h
          refine v_iconst ⟨by decide, by decide⟩ dX12_stands_32 ?_
          refine v_goto (tgt := 42) dX12_stands_33 (by decide) ?_
          refine v_ireturn rfl dX12_stands_42 ⟨by decide, by decide⟩ ?_
          exact ⟨_, rfl, rfl, h⟩
theorem cf_X12_stands {l : Launch} {E : bE} {M : bM} {v1 : Int} {v2 : Int} {v3 : Int} {Q : Int → Prop} (h : b_wp (F_X12_stands v1 v2 v3 M) Q) : b_C l E xX12_stands yX12_stands [bR 11, bI v1, bI v2, bI v3] M (b_pIp M Q) := b_met (by decide) ⟨rfl, rfl⟩ (Nat.le_of_ble_eq_true rfl) (fun _ _ => t_X12_stands h)
abbrev xX12_rank : bX := ("BurntHallModel", prog_14_method_113_code, 7, (Option.some Jvm.ClassFile.FieldType.int), b_rm 4 0 0, 0, "rank")
abbrev yX12_rank : MethodName := ⟨"BurntHallModel", "rank", "(III)I"⟩
theorem dX12_rank_0 : decode prog_14_method_113_code 0 = .ok (.aload_n 0, 1) := by decide +kernel
theorem dX12_rank_1 : decode prog_14_method_113_code 1 = .ok (.iload_n 1, 1) := by decide +kernel
theorem dX12_rank_2 : decode prog_14_method_113_code 2 = .ok (.invokevirtual 626, 3) := by decide +kernel
theorem dX12_rank_5 : decode prog_14_method_113_code 5 = .ok (.ifCond .eq 17, 3) := by decide +kernel
theorem dX12_rank_8 : decode prog_14_method_113_code 8 = .ok (.iload_n 2, 1) := by decide +kernel
theorem dX12_rank_9 : decode prog_14_method_113_code 9 = .ok (.invokestatic 347, 3) := by decide +kernel
theorem dX12_rank_12 : decode prog_14_method_113_code 12 = .ok (.ifCond .eq 10, 3) := by decide +kernel
theorem dX12_rank_15 : decode prog_14_method_113_code 15 = .ok (.iload_n 3, 1) := by decide +kernel
theorem dX12_rank_16 : decode prog_14_method_113_code 16 = .ok (.invokestatic 347, 3) := by decide +kernel
theorem dX12_rank_19 : decode prog_14_method_113_code 19 = .ok (.ifCond .ne 6, 3) := by decide +kernel
theorem dX12_rank_22 : decode prog_14_method_113_code 22 = .ok (.bipush (-2), 2) := by decide +kernel
theorem dX12_rank_24 : decode prog_14_method_113_code 24 = .ok (.ireturn, 1) := by decide +kernel
theorem dX12_rank_25 : decode prog_14_method_113_code 25 = .ok (.aload_n 0, 1) := by decide +kernel
theorem dX12_rank_26 : decode prog_14_method_113_code 26 = .ok (.iload_n 1, 1) := by decide +kernel
theorem dX12_rank_27 : decode prog_14_method_113_code 27 = .ok (.iload_n 2, 1) := by decide +kernel
theorem dX12_rank_28 : decode prog_14_method_113_code 28 = .ok (.iload_n 3, 1) := by decide +kernel
theorem dX12_rank_29 : decode prog_14_method_113_code 29 = .ok (.invokevirtual 629, 3) := by decide +kernel
theorem dX12_rank_32 : decode prog_14_method_113_code 32 = .ok (.ifCond .ne 5, 3) := by decide +kernel
theorem dX12_rank_35 : decode prog_14_method_113_code 35 = .ok (.iconst (-1), 1) := by decide +kernel
theorem dX12_rank_36 : decode prog_14_method_113_code 36 = .ok (.ireturn, 1) := by decide +kernel
theorem dX12_rank_37 : decode prog_14_method_113_code 37 = .ok (.iconst 0, 1) := by decide +kernel
theorem dX12_rank_38 : decode prog_14_method_113_code 38 = .ok (.istore 4, 2) := by decide +kernel
theorem dX12_rank_40 : decode prog_14_method_113_code 40 = .ok (.iconst 0, 1) := by decide +kernel
theorem dX12_rank_41 : decode prog_14_method_113_code 41 = .ok (.istore 5, 2) := by decide +kernel
theorem dX12_rank_43 : decode prog_14_method_113_code 43 = .ok (.iload 5, 2) := by decide +kernel
theorem dX12_rank_45 : decode prog_14_method_113_code 45 = .ok (.aload_n 0, 1) := by decide +kernel
theorem dX12_rank_46 : decode prog_14_method_113_code 46 = .ok (.getfield 623, 3) := by decide +kernel
theorem dX12_rank_49 : decode prog_14_method_113_code 49 = .ok (.if_icmp .ge 106, 3) := by decide +kernel
theorem dX12_rank_52 : decode prog_14_method_113_code 52 = .ok (.aload_n 0, 1) := by decide +kernel
theorem dX12_rank_53 : decode prog_14_method_113_code 53 = .ok (.getfield 215, 3) := by decide +kernel
theorem dX12_rank_56 : decode prog_14_method_113_code 56 = .ok (.iload 5, 2) := by decide +kernel
theorem dX12_rank_58 : decode prog_14_method_113_code 58 = .ok (.iaload, 1) := by decide +kernel
theorem dX12_rank_59 : decode prog_14_method_113_code 59 = .ok (.aload_n 0, 1) := by decide +kernel
theorem dX12_rank_60 : decode prog_14_method_113_code 60 = .ok (.getfield 215, 3) := by decide +kernel
theorem dX12_rank_63 : decode prog_14_method_113_code 63 = .ok (.iload_n 1, 1) := by decide +kernel
theorem dX12_rank_64 : decode prog_14_method_113_code 64 = .ok (.iaload, 1) := by decide +kernel
theorem dX12_rank_65 : decode prog_14_method_113_code 65 = .ok (.if_icmp .lt 25, 3) := by decide +kernel
theorem dX12_rank_68 : decode prog_14_method_113_code 68 = .ok (.aload_n 0, 1) := by decide +kernel
theorem dX12_rank_69 : decode prog_14_method_113_code 69 = .ok (.getfield 215, 3) := by decide +kernel
theorem dX12_rank_72 : decode prog_14_method_113_code 72 = .ok (.iload 5, 2) := by decide +kernel
theorem dX12_rank_74 : decode prog_14_method_113_code 74 = .ok (.iaload, 1) := by decide +kernel
theorem dX12_rank_75 : decode prog_14_method_113_code 75 = .ok (.aload_n 0, 1) := by decide +kernel
theorem dX12_rank_76 : decode prog_14_method_113_code 76 = .ok (.getfield 215, 3) := by decide +kernel
theorem dX12_rank_79 : decode prog_14_method_113_code 79 = .ok (.iload_n 1, 1) := by decide +kernel
theorem dX12_rank_80 : decode prog_14_method_113_code 80 = .ok (.iaload, 1) := by decide +kernel
theorem dX12_rank_81 : decode prog_14_method_113_code 81 = .ok (.if_icmp .ne 13, 3) := by decide +kernel
theorem dX12_rank_84 : decode prog_14_method_113_code 84 = .ok (.iload 5, 2) := by decide +kernel
theorem dX12_rank_86 : decode prog_14_method_113_code 86 = .ok (.iload_n 1, 1) := by decide +kernel
theorem dX12_rank_87 : decode prog_14_method_113_code 87 = .ok (.if_icmp .ge 7, 3) := by decide +kernel
theorem dX12_rank_90 : decode prog_14_method_113_code 90 = .ok (.iconst 1, 1) := by decide +kernel
theorem dX12_rank_91 : decode prog_14_method_113_code 91 = .ok (.goto 4, 3) := by decide +kernel
theorem dX12_rank_94 : decode prog_14_method_113_code 94 = .ok (.iconst 0, 1) := by decide +kernel
theorem dX12_rank_95 : decode prog_14_method_113_code 95 = .ok (.istore 6, 2) := by decide +kernel
theorem dX12_rank_97 : decode prog_14_method_113_code 97 = .ok (.iload 4, 2) := by decide +kernel
theorem dX12_rank_99 : decode prog_14_method_113_code 99 = .ok (.iload 6, 2) := by decide +kernel
theorem dX12_rank_101 : decode prog_14_method_113_code 101 = .ok (.ifCond .eq 44, 3) := by decide +kernel
theorem dX12_rank_104 : decode prog_14_method_113_code 104 = .ok (.aload_n 0, 1) := by decide +kernel
theorem dX12_rank_105 : decode prog_14_method_113_code 105 = .ok (.getfield 51, 3) := by decide +kernel
theorem dX12_rank_108 : decode prog_14_method_113_code 108 = .ok (.aload_n 0, 1) := by decide +kernel
theorem dX12_rank_109 : decode prog_14_method_113_code 109 = .ok (.getfield 209, 3) := by decide +kernel
theorem dX12_rank_112 : decode prog_14_method_113_code 112 = .ok (.iload_n 1, 1) := by decide +kernel
theorem dX12_rank_113 : decode prog_14_method_113_code 113 = .ok (.iaload, 1) := by decide +kernel
theorem dX12_rank_114 : decode prog_14_method_113_code 114 = .ok (.laload, 1) := by decide +kernel
theorem dX12_rank_115 : decode prog_14_method_113_code 115 = .ok (.aload_n 0, 1) := by decide +kernel
theorem dX12_rank_116 : decode prog_14_method_113_code 116 = .ok (.getfield 209, 3) := by decide +kernel
theorem dX12_rank_119 : decode prog_14_method_113_code 119 = .ok (.iload 5, 2) := by decide +kernel
theorem dX12_rank_121 : decode prog_14_method_113_code 121 = .ok (.iaload, 1) := by decide +kernel
theorem dX12_rank_122 : decode prog_14_method_113_code 122 = .ok (.lshr, 1) := by decide +kernel
theorem dX12_rank_123 : decode prog_14_method_113_code 123 = .ok (.lconst 1, 1) := by decide +kernel
theorem dX12_rank_124 : decode prog_14_method_113_code 124 = .ok (.land, 1) := by decide +kernel
theorem dX12_rank_125 : decode prog_14_method_113_code 125 = .ok (.lconst 1, 1) := by decide +kernel
theorem dX12_rank_126 : decode prog_14_method_113_code 126 = .ok (.lcmp, 1) := by decide +kernel
theorem dX12_rank_127 : decode prog_14_method_113_code 127 = .ok (.ifCond .ne 18, 3) := by decide +kernel
theorem dX12_rank_130 : decode prog_14_method_113_code 130 = .ok (.aload_n 0, 1) := by decide +kernel
theorem dX12_rank_131 : decode prog_14_method_113_code 131 = .ok (.iload 5, 2) := by decide +kernel
theorem dX12_rank_133 : decode prog_14_method_113_code 133 = .ok (.iload_n 2, 1) := by decide +kernel
theorem dX12_rank_134 : decode prog_14_method_113_code 134 = .ok (.iload_n 3, 1) := by decide +kernel
theorem dX12_rank_135 : decode prog_14_method_113_code 135 = .ok (.invokevirtual 629, 3) := by decide +kernel
theorem dX12_rank_138 : decode prog_14_method_113_code 138 = .ok (.ifCond .eq 7, 3) := by decide +kernel
theorem dX12_rank_141 : decode prog_14_method_113_code 141 = .ok (.iconst 1, 1) := by decide +kernel
theorem dX12_rank_142 : decode prog_14_method_113_code 142 = .ok (.goto 4, 3) := by decide +kernel
theorem dX12_rank_145 : decode prog_14_method_113_code 145 = .ok (.iconst 0, 1) := by decide +kernel
theorem dX12_rank_146 : decode prog_14_method_113_code 146 = .ok (.iadd, 1) := by decide +kernel
theorem dX12_rank_147 : decode prog_14_method_113_code 147 = .ok (.istore 4, 2) := by decide +kernel
theorem dX12_rank_149 : decode prog_14_method_113_code 149 = .ok (.iinc 5 1, 3) := by decide +kernel
theorem dX12_rank_152 : decode prog_14_method_113_code 152 = .ok (.goto (-109), 3) := by decide +kernel
theorem dX12_rank_155 : decode prog_14_method_113_code 155 = .ok (.iload 4, 2) := by decide +kernel
theorem dX12_rank_157 : decode prog_14_method_113_code 157 = .ok (.ireturn, 1) := by decide +kernel
abbrev A_X12_rank_43 (l : Launch) (E : bE) (Q : Int → Prop) (v1 : Int) (v2 : Int) (v3 : Int) (M : bM) : (Int × Int) → Prop := (fun t : Int × Int => V l E xX12_rank (0, 0) 43 [(0, bR 11), (1, bI v1), (2, bI v2), (3, bI v3), (4, bI (t.1)), (5, bI (t.2))] [] M (b_pIp M Q))
abbrev X_X12_rank_43 (l : Launch) (E : bE) (Q : Int → Prop) (v1 : Int) (v2 : Int) (v3 : Int) (M : bM) : (Int) → Prop := (fun t : Int => V l E xX12_rank (0, 0) 155 [(4, bI t)] [] M (b_pIp M Q))
noncomputable def F_X12_rank_b146 (v1 : Int) (v2 : Int) (v3 : Int) (v5 : Int) (u0 : Int) (u1 : Int) (M : bM) : Option ((Int × Int) ⊕ (Int)) :=
  b_g ((b_i32 (u0 + u1)) ∧ (b_i32 (v5 + 1))) (some (.inl ((u0 + u1), (v5 + 1))))
theorem t_X12_rank_b146 {l : Launch} {E : bE} {Q : Int → Prop} {v1 : Int} {v2 : Int} {v3 : Int} {v5 : Int} {u0 : Int} {u1 : Int} {M : bM} (h : b_wp (F_X12_rank_b146 v1 v2 v3 v5 u0 u1 M) (Sum.elim (A_X12_rank_43 l E Q v1 v2 v3 M) (X_X12_rank_43 l E Q v1 v2 v3 M))) : V l E xX12_rank (0, 0) 146 [(0, bR 11), (1, bI v1), (2, bI v2), (3, bI v3), (5, bI v5)] [bI u1, bI u0] M (b_pIp M Q) := by
  unfold F_X12_rank_b146 at h
  obtain ⟨⟨g14, g15⟩, h⟩ := b_wp_g h
  refine v_iaddN g14 dX12_rank_146 ?_
  refine v_istore (i := 4) (ls' := [(4, bI _), (0, bR _), (1, bI _), (2, bI _), (3, bI _), (5, bI _)]) (by decide) dX12_rank_147 rfl ?_
  refine v_iincN (ls' := [(5, bI _), (4, bI _), (0, bR _), (1, bI _), (2, bI _), (3, bI _)]) 5 rfl (by decide) g15 dX12_rank_149 rfl ?_
  refine v_goto (tgt := 43) dX12_rank_152 (by decide) ?_
  refine v_sub (ls2 := [(0, bR _), (1, bI _), (2, bI _), (3, bI _), (4, bI _), (5, bI _)]) [2, 3, 4, 5, 1, 0] rfl ?_
  exact h
noncomputable def F_X12_rank_b145 (v1 : Int) (v2 : Int) (v3 : Int) (v5 : Int) (u0 : Int) (M : bM) : Option ((Int × Int) ⊕ (Int)) :=
  F_X12_rank_b146 v1 v2 v3 v5 u0 0 M
theorem t_X12_rank_b145 {l : Launch} {E : bE} {Q : Int → Prop} {v1 : Int} {v2 : Int} {v3 : Int} {v5 : Int} {u0 : Int} {M : bM} (h : b_wp (F_X12_rank_b145 v1 v2 v3 v5 u0 M) (Sum.elim (A_X12_rank_43 l E Q v1 v2 v3 M) (X_X12_rank_43 l E Q v1 v2 v3 M))) : V l E xX12_rank (0, 0) 145 [(0, bR 11), (1, bI v1), (2, bI v2), (3, bI v3), (5, bI v5)] [bI u0] M (b_pIp M Q) := by
  unfold F_X12_rank_b145 at h
  refine v_iconst ⟨by decide, by decide⟩ dX12_rank_145 ?_
  exact t_X12_rank_b146 h
noncomputable def F_X12_rank_b95 (v1 : Int) (v2 : Int) (v3 : Int) (v4 : Int) (v5 : Int) (u0 : Int) (M : bM) : Option ((Int × Int) ⊕ (Int)) :=
  if u0 = 0 then (F_X12_rank_b145 v1 v2 v3 v5 v4 M) else (b_g ((0 ≤ v1 ∧ v1 < 40) ∧ (0 ≤ (M 225 v1) ∧ (M 225 v1) < 60) ∧ (0 ≤ v5 ∧ v5 < 40)) (if (j_cmp (j_and (j_shr (M 174 (M 225 v1)) (M 225 v5)) 1) 1) = 0 then (b_bind (F_X12_isStanding v5 v2 v3 M) (fun x20 => if x20 = 0 then (F_X12_rank_b145 v1 v2 v3 v5 v4 M) else (F_X12_rank_b146 v1 v2 v3 v5 v4 1 M))) else (F_X12_rank_b145 v1 v2 v3 v5 v4 M)))
theorem t_X12_rank_b95 {l : Launch} {E : bE} {Q : Int → Prop} {v1 : Int} {v2 : Int} {v3 : Int} {v4 : Int} {v5 : Int} {u0 : Int} {M : bM} (h : b_wp (F_X12_rank_b95 v1 v2 v3 v4 v5 u0 M) (Sum.elim (A_X12_rank_43 l E Q v1 v2 v3 M) (X_X12_rank_43 l E Q v1 v2 v3 M))) : V l E xX12_rank (0, 0) 95 [(0, bR 11), (1, bI v1), (2, bI v2), (3, bI v3), (4, bI v4), (5, bI v5)] [bI u0] M (b_pIp M Q) := by
  unfold F_X12_rank_b95 at h
  refine v_istore (i := 6) (ls' := [(6, bI _), (0, bR _), (1, bI _), (2, bI _), (3, bI _), (4, bI _), (5, bI _)]) (by decide) dX12_rank_95 rfl ?_
  refine v_iload (i := 4) 5 rfl dX12_rank_97 ?_
  refine v_iload (i := 6) 0 rfl dX12_rank_99 ?_
  refine v_if_eq (tgt := 145) dX12_rank_101 (by decide) (fun c13 => ?_) (fun c13 => ?_)
  · replace h := b_wp_t c13 h
    refine v_sub (ls2 := [(0, bR _), (1, bI _), (2, bI _), (3, bI _), (5, bI _)]) [1, 2, 3, 4, 6] rfl ?_
    exact t_X12_rank_b145 h
  · replace h := b_wp_f c13 h
    obtain ⟨⟨g16, g17, g18⟩, h⟩ := b_wp_g h
    refine v_aload_n (f := 0) 1 rfl dX12_rank_104 ?_
    refine v_getR (kf := 26) (kz := 26) rfl kd_11 rfl ⟨by decide, by decide⟩ rfl wf_12_51 dX12_rank_105 ?_
    refine v_aload_n (f := 0) 1 rfl dX12_rank_108 ?_
    refine v_getR (kf := 100) (kz := 100) rfl kd_11 rfl ⟨by decide, by decide⟩ rfl wf_12_209 dX12_rank_109 ?_
    refine v_iload_n (f := 1) 2 rfl dX12_rank_112 ?_
    refine v_iaload kd_225 g16 (by decide) dX12_rank_113 ?_
    refine v_laload kd_174 g17 (by decide) dX12_rank_114 ?_
    refine v_aload_n (f := 0) 1 rfl dX12_rank_115 ?_
    refine v_getR (kf := 100) (kz := 100) rfl kd_11 rfl ⟨by decide, by decide⟩ rfl wf_12_209 dX12_rank_116 ?_
    refine v_iload (i := 5) 6 rfl dX12_rank_119 ?_
    refine v_iaload kd_225 g18 (by decide) dX12_rank_121 ?_
    refine v_lshr (v := j_shr _ _) rfl dX12_rank_122 ?_
    refine v_lconst1 dX12_rank_123 ?_
    refine v_land (v := j_and _ _) rfl dX12_rank_124 ?_
    refine v_lconst1 dX12_rank_125 ?_
    refine v_lcmpN dX12_rank_126 ?_
    refine v_if_ne (tgt := 145) dX12_rank_127 (by decide) (fun c19 => ?_) (fun c19 => ?_)
    · replace h := b_wp_f c19 h
      refine v_sub (ls2 := [(0, bR _), (1, bI _), (2, bI _), (3, bI _), (5, bI _)]) [1, 2, 3, 4, 6] rfl ?_
      exact t_X12_rank_b145 h
    · replace h := b_wp_t c19 h
      refine v_aload_n (f := 0) 1 rfl dX12_rank_130 ?_
      refine v_iload (i := 5) 6 rfl dX12_rank_131 ?_
      refine v_iload_n (f := 2) 3 rfl dX12_rank_133 ?_
      refine v_iload_n (f := 3) 4 rfl dX12_rank_134 ?_
      refine v_cVIp (nA := 3) (As := [bI _, bI _, bI _]) (ix := 629) (cf_X12_isStanding (b_wp_b h)) rfl kd_11 rfl rfl wc_X12_isStanding wm_12_629 wi_X12_isStanding ws_X12_isStanding wn_12 ⟨by decide, by decide, by decide⟩ rfl ⟨by decide, by decide⟩ ⟨by decide, by decide⟩ (Nat.le_of_ble_eq_true rfl) dX12_rank_135 (fun x20 h => ?_)
      refine v_if_eq (tgt := 145) dX12_rank_138 (by decide) (fun c21 => ?_) (fun c21 => ?_)
      · replace h := b_wp_t c21 h
        refine v_sub (ls2 := [(0, bR _), (1, bI _), (2, bI _), (3, bI _), (5, bI _)]) [1, 2, 3, 4, 6] rfl ?_
        exact t_X12_rank_b145 h
      · replace h := b_wp_f c21 h
        refine v_iconst ⟨by decide, by decide⟩ dX12_rank_141 ?_
        refine v_goto (tgt := 146) dX12_rank_142 (by decide) ?_
        refine v_sub (ls2 := [(0, bR _), (1, bI _), (2, bI _), (3, bI _), (5, bI _)]) [1, 2, 3, 4, 6] rfl ?_
        exact t_X12_rank_b146 h
noncomputable def F_X12_rank_b90 (v1 : Int) (v2 : Int) (v3 : Int) (v4 : Int) (v5 : Int) (M : bM) : Option ((Int × Int) ⊕ (Int)) :=
  F_X12_rank_b95 v1 v2 v3 v4 v5 1 M
theorem t_X12_rank_b90 {l : Launch} {E : bE} {Q : Int → Prop} {v1 : Int} {v2 : Int} {v3 : Int} {v4 : Int} {v5 : Int} {M : bM} (h : b_wp (F_X12_rank_b90 v1 v2 v3 v4 v5 M) (Sum.elim (A_X12_rank_43 l E Q v1 v2 v3 M) (X_X12_rank_43 l E Q v1 v2 v3 M))) : V l E xX12_rank (0, 0) 90 [(0, bR 11), (1, bI v1), (2, bI v2), (3, bI v3), (4, bI v4), (5, bI v5)] [] M (b_pIp M Q) := by
  unfold F_X12_rank_b90 at h
  refine v_iconst ⟨by decide, by decide⟩ dX12_rank_90 ?_
  refine v_goto (tgt := 95) dX12_rank_91 (by decide) ?_
  exact t_X12_rank_b95 h
noncomputable def F_X12_rank_b94 (v1 : Int) (v2 : Int) (v3 : Int) (v4 : Int) (v5 : Int) (M : bM) : Option ((Int × Int) ⊕ (Int)) :=
  F_X12_rank_b95 v1 v2 v3 v4 v5 0 M
theorem t_X12_rank_b94 {l : Launch} {E : bE} {Q : Int → Prop} {v1 : Int} {v2 : Int} {v3 : Int} {v4 : Int} {v5 : Int} {M : bM} (h : b_wp (F_X12_rank_b94 v1 v2 v3 v4 v5 M) (Sum.elim (A_X12_rank_43 l E Q v1 v2 v3 M) (X_X12_rank_43 l E Q v1 v2 v3 M))) : V l E xX12_rank (0, 0) 94 [(0, bR 11), (1, bI v1), (2, bI v2), (3, bI v3), (4, bI v4), (5, bI v5)] [] M (b_pIp M Q) := by
  unfold F_X12_rank_b94 at h
  refine v_iconst ⟨by decide, by decide⟩ dX12_rank_94 ?_
  exact t_X12_rank_b95 h
noncomputable def F_X12_rank_s43 (v1 : Int) (v2 : Int) (v3 : Int) (v4 : Int) (v5 : Int) (M : bM) : Option ((Int × Int) ⊕ (Int)) :=
  if (M 11 99) ≤ v5 then (some (.inr (v4))) else (b_g ((0 ≤ v5 ∧ v5 < 40) ∧ (0 ≤ v1 ∧ v1 < 40)) (if (M 227 v5) < (M 227 v1) then (F_X12_rank_b90 v1 v2 v3 v4 v5 M) else (b_g ((0 ≤ v5 ∧ v5 < 40) ∧ (0 ≤ v1 ∧ v1 < 40)) (if (M 227 v5) = (M 227 v1) then (if v1 ≤ v5 then (F_X12_rank_b94 v1 v2 v3 v4 v5 M) else (F_X12_rank_b90 v1 v2 v3 v4 v5 M)) else (F_X12_rank_b94 v1 v2 v3 v4 v5 M)))))
theorem t_X12_rank_s43 {l : Launch} {E : bE} {Q : Int → Prop} {v1 : Int} {v2 : Int} {v3 : Int} {v4 : Int} {v5 : Int} {M : bM} (h : b_wp (F_X12_rank_s43 v1 v2 v3 v4 v5 M) (Sum.elim (A_X12_rank_43 l E Q v1 v2 v3 M) (X_X12_rank_43 l E Q v1 v2 v3 M))) : V l E xX12_rank (0, 0) 43 [(0, bR 11), (1, bI v1), (2, bI v2), (3, bI v3), (4, bI v4), (5, bI v5)] [] M (b_pIp M Q) := by
  unfold F_X12_rank_s43 at h
  refine v_iload (i := 5) 5 rfl dX12_rank_43 ?_
  refine v_aload_n (f := 0) 0 rfl dX12_rank_45 ?_
  refine v_getI (kf := 99) (kz := 99) rfl kd_11 rfl ⟨by decide, by decide⟩ rfl wf_12_623 dX12_rank_46 ?_
  refine v_icmp_ge (tgt := 155) dX12_rank_49 (by decide) (fun c9 => ?_) (fun c9 => ?_)
  · replace h := b_wp_t c9 h
    refine v_sub (ls2 := [(4, bI _)]) [4] rfl ?_
    exact h
  · replace h := b_wp_f c9 h
    obtain ⟨⟨g10, g11⟩, h⟩ := b_wp_g h
    refine v_aload_n (f := 0) 0 rfl dX12_rank_52 ?_
    refine v_getR (kf := 102) (kz := 102) rfl kd_11 rfl ⟨by decide, by decide⟩ rfl wf_12_215 dX12_rank_53 ?_
    refine v_iload (i := 5) 5 rfl dX12_rank_56 ?_
    refine v_iaload kd_227 g10 (by decide) dX12_rank_58 ?_
    refine v_aload_n (f := 0) 0 rfl dX12_rank_59 ?_
    refine v_getR (kf := 102) (kz := 102) rfl kd_11 rfl ⟨by decide, by decide⟩ rfl wf_12_215 dX12_rank_60 ?_
    refine v_iload_n (f := 1) 1 rfl dX12_rank_63 ?_
    refine v_iaload kd_227 g11 (by decide) dX12_rank_64 ?_
    refine v_icmp_lt (tgt := 90) dX12_rank_65 (by decide) (fun c12 => ?_) (fun c12 => ?_)
    · replace h := b_wp_t c12 h
      exact t_X12_rank_b90 h
    · replace h := b_wp_f c12 h
      obtain ⟨⟨g22, g23⟩, h⟩ := b_wp_g h
      refine v_aload_n (f := 0) 0 rfl dX12_rank_68 ?_
      refine v_getR (kf := 102) (kz := 102) rfl kd_11 rfl ⟨by decide, by decide⟩ rfl wf_12_215 dX12_rank_69 ?_
      refine v_iload (i := 5) 5 rfl dX12_rank_72 ?_
      refine v_iaload kd_227 g22 (by decide) dX12_rank_74 ?_
      refine v_aload_n (f := 0) 0 rfl dX12_rank_75 ?_
      refine v_getR (kf := 102) (kz := 102) rfl kd_11 rfl ⟨by decide, by decide⟩ rfl wf_12_215 dX12_rank_76 ?_
      refine v_iload_n (f := 1) 1 rfl dX12_rank_79 ?_
      refine v_iaload kd_227 g23 (by decide) dX12_rank_80 ?_
      refine v_icmp_ne (tgt := 94) dX12_rank_81 (by decide) (fun c24 => ?_) (fun c24 => ?_)
      · replace h := b_wp_f c24 h
        exact t_X12_rank_b94 h
      · replace h := b_wp_t c24 h
        refine v_iload (i := 5) 5 rfl dX12_rank_84 ?_
        refine v_iload_n (f := 1) 1 rfl dX12_rank_86 ?_
        refine v_icmp_ge (tgt := 94) dX12_rank_87 (by decide) (fun c25 => ?_) (fun c25 => ?_)
        · replace h := b_wp_t c25 h
          exact t_X12_rank_b94 h
        · replace h := b_wp_f c25 h
          exact t_X12_rank_b90 h
theorem l_X12_rank_43 {l : Launch} {E : bE} {Q : Int → Prop} {v1 : Int} {v2 : Int} {v3 : Int} {M : bM} {s : Int × Int} (h : b_wp (b_loop (fun t => F_X12_rank_s43 v1 v2 v3 t.1 t.2 M) s) (X_X12_rank_43 l E Q v1 v2 v3 M)) : A_X12_rank_43 l E Q v1 v2 v3 M s := b_loop_wp (fun t h => t_X12_rank_s43 h) s h
noncomputable def F_X12_rank_b155 (v4 : Int) (M : bM) : Option (Int) :=
  some v4
theorem t_X12_rank_b155 {l : Launch} {E : bE} {Q : Int → Prop} {v4 : Int} {M : bM} (h : b_wp (F_X12_rank_b155 v4 M) (Q)) : V l E xX12_rank (0, 0) 155 [(4, bI v4)] [] M (b_pIp M Q) := by
  unfold F_X12_rank_b155 at h
  refine v_iload (i := 4) 0 rfl dX12_rank_155 ?_
  refine v_ireturn rfl dX12_rank_157 ⟨by decide, by decide⟩ ?_
  exact ⟨_, rfl, rfl, h⟩
noncomputable def F_X12_rank (v1 : Int) (v2 : Int) (v3 : Int) (M : bM) : Option (Int) :=
  b_bind (F_X12_isMortgage v1 M) (fun x1 => if x1 = 0 then (some (-2)) else (b_bind (F_X12_isDay v2 M) (fun x3 => if x3 = 0 then (some (-2)) else (b_bind (F_X12_isDay v3 M) (fun x5 => if x5 = 0 then (some (-2)) else (b_bind (F_X12_isStanding v1 v2 v3 M) (fun x7 => if x7 = 0 then (some (-1)) else (b_bind (b_loop (fun t => F_X12_rank_s43 v1 v2 v3 t.1 t.2 M) (0, 0)) (fun t => F_X12_rank_b155 t M)))))))))
theorem t_X12_rank {l : Launch} {E : bE} {Q : Int → Prop} {v1 : Int} {v2 : Int} {v3 : Int} {M : bM} (h : b_wp (F_X12_rank v1 v2 v3 M) (Q)) : V l E xX12_rank (0, 0) 0 [(0, bR 11), (1, bI v1), (2, bI v2), (3, bI v3)] [] M (b_pIp M Q) := by
  unfold F_X12_rank at h
  refine v_aload_n (f := 0) 0 rfl dX12_rank_0 ?_
  refine v_iload_n (f := 1) 1 rfl dX12_rank_1 ?_
  refine v_cVIp (nA := 1) (As := [bI _]) (ix := 626) (cf_X12_isMortgage (b_wp_b h)) rfl kd_11 rfl rfl wc_X12_isMortgage wm_12_626 wi_X12_isMortgage ws_X12_isMortgage wn_12 ⟨by decide, by decide, by decide⟩ rfl ⟨by decide, by decide⟩ ⟨by decide, by decide⟩ (Nat.le_of_ble_eq_true rfl) dX12_rank_2 (fun x1 h => ?_)
  refine v_if_eq (tgt := 22) dX12_rank_5 (by decide) (fun c2 => ?_) (fun c2 => ?_)
  · replace h := b_wp_t c2 h
    refine v_bipush ⟨by decide, by decide⟩ (by decide) dX12_rank_22 ?_
    refine v_ireturn rfl dX12_rank_24 ⟨by decide, by decide⟩ ?_
    exact ⟨_, rfl, rfl, h⟩
  · replace h := b_wp_f c2 h
    refine v_iload_n (f := 2) 2 rfl dX12_rank_8 ?_
    refine v_cSIp (nA := 1) (As := [bI _]) (ix := 347) (cf_X12_isDay (b_wp_b h)) rfl wc_X12_isDay wm_12_347 wi_X12_isDay wn_12 ⟨by decide, by decide, by decide⟩ rfl ⟨by decide, by decide⟩ ⟨by decide, by decide⟩ (Nat.le_of_ble_eq_true rfl) dX12_rank_9 (fun x3 h => ?_)
    refine v_if_eq (tgt := 22) dX12_rank_12 (by decide) (fun c4 => ?_) (fun c4 => ?_)
    · replace h := b_wp_t c4 h
      refine v_bipush ⟨by decide, by decide⟩ (by decide) dX12_rank_22 ?_
      refine v_ireturn rfl dX12_rank_24 ⟨by decide, by decide⟩ ?_
      exact ⟨_, rfl, rfl, h⟩
    · replace h := b_wp_f c4 h
      refine v_iload_n (f := 3) 3 rfl dX12_rank_15 ?_
      refine v_cSIp (nA := 1) (As := [bI _]) (ix := 347) (cf_X12_isDay (b_wp_b h)) rfl wc_X12_isDay wm_12_347 wi_X12_isDay wn_12 ⟨by decide, by decide, by decide⟩ rfl ⟨by decide, by decide⟩ ⟨by decide, by decide⟩ (Nat.le_of_ble_eq_true rfl) dX12_rank_16 (fun x5 h => ?_)
      refine v_if_ne (tgt := 25) dX12_rank_19 (by decide) (fun c6 => ?_) (fun c6 => ?_)
      · replace h := b_wp_f c6 h
        refine v_aload_n (f := 0) 0 rfl dX12_rank_25 ?_
        refine v_iload_n (f := 1) 1 rfl dX12_rank_26 ?_
        refine v_iload_n (f := 2) 2 rfl dX12_rank_27 ?_
        refine v_iload_n (f := 3) 3 rfl dX12_rank_28 ?_
        refine v_cVIp (nA := 3) (As := [bI _, bI _, bI _]) (ix := 629) (cf_X12_isStanding (b_wp_b h)) rfl kd_11 rfl rfl wc_X12_isStanding wm_12_629 wi_X12_isStanding ws_X12_isStanding wn_12 ⟨by decide, by decide, by decide⟩ rfl ⟨by decide, by decide⟩ ⟨by decide, by decide⟩ (Nat.le_of_ble_eq_true rfl) dX12_rank_29 (fun x7 h => ?_)
        refine v_if_ne (tgt := 37) dX12_rank_32 (by decide) (fun c8 => ?_) (fun c8 => ?_)
        · replace h := b_wp_f c8 h
          refine v_iconst ⟨by decide, by decide⟩ dX12_rank_37 ?_
          refine v_istore (i := 4) (ls' := [(4, bI _), (0, bR _), (1, bI _), (2, bI _), (3, bI _)]) (by decide) dX12_rank_38 rfl ?_
          refine v_iconst ⟨by decide, by decide⟩ dX12_rank_40 ?_
          refine v_istore (i := 5) (ls' := [(5, bI _), (4, bI _), (0, bR _), (1, bI _), (2, bI _), (3, bI _)]) (by decide) dX12_rank_41 rfl ?_
          refine v_sub (ls2 := [(0, bR _), (1, bI _), (2, bI _), (3, bI _), (4, bI _), (5, bI _)]) [2, 3, 4, 5, 1, 0] rfl ?_
          refine l_X12_rank_43 (b_wp_m (fun t h => ?_) (b_wp_b h))
          show V l E xX12_rank (0, 0) 155 [(4, bI _)] [] _ (b_pIp M Q)
          exact t_X12_rank_b155 h
        · replace h := b_wp_t c8 h
          refine v_iconst ⟨by decide, by decide⟩ dX12_rank_35 ?_
          refine v_ireturn rfl dX12_rank_36 ⟨by decide, by decide⟩ ?_
          exact ⟨_, rfl, rfl, h⟩
      · replace h := b_wp_t c6 h
        refine v_bipush ⟨by decide, by decide⟩ (by decide) dX12_rank_22 ?_
        refine v_ireturn rfl dX12_rank_24 ⟨by decide, by decide⟩ ?_
        exact ⟨_, rfl, rfl, h⟩
theorem cf_X12_rank {l : Launch} {E : bE} {M : bM} {v1 : Int} {v2 : Int} {v3 : Int} {Q : Int → Prop} (h : b_wp (F_X12_rank v1 v2 v3 M) Q) : b_C l E xX12_rank yX12_rank [bR 11, bI v1, bI v2, bI v3] M (b_pIp M Q) := b_met (by decide) ⟨rfl, rfl⟩ (Nat.le_of_ble_eq_true rfl) (fun _ _ => t_X12_rank h)
