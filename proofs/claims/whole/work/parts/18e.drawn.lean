abbrev A_X4_findSpan_9 (l : Launch) (E : bE) (Q : bM → Prop) (v1 : Int) (M : bM) : (Int × Int × Int) → Prop := (fun t : Int × Int × Int => V l E xX4_findSpan (0, 0) 9 [(0, bR 6), (1, bI v1), (2, bI (t.1)), (3, bI (t.2.1)), (4, bI (t.2.2))] [] M (b_pV Q))
abbrev X_X4_findSpan_9 (l : Launch) (E : bE) (Q : bM → Prop) (v1 : Int) (M : bM) : (Int × Int) → Prop := (fun t : Int × Int => V l E xX4_findSpan (0, 0) 79 [(0, bR 6), (1, bI v1), (2, bI (t.1)), (3, bI (t.2))] [] M (b_pV Q))
noncomputable def F_X4_findSpan_s9 (v1 : Int) (v2 : Int) (v3 : Int) (v4 : Int) (M : bM) : Option ((Int × Int × Int) ⊕ (Int × Int)) :=
  if (M 6 11) ≤ v4 then (some (.inr (v2, v3))) else (b_g (0 ≤ v4 ∧ v4 < 120) (b_let ((M 128 v4)) (fun y3 => b_bind (F_X7_weightBy y3 (M 6 7) M) (fun x4 => if x4 ≤ 0 then (b_g (b_i32 (v4 + 1)) (some (.inl (v2, v3, (v4 + 1))))) else (b_g (0 ≤ y3 ∧ y3 < 120) (b_let ((max v2 (M 113 y3))) (fun y8 => b_g (0 ≤ y3 ∧ y3 < 120) (b_let ((min v3 (M 114 y3))) (fun y10 => b_g (b_i32 (v4 + 1)) (some (.inl (y8, y10, (v4 + 1)))))))))))))
theorem t_X4_findSpan_s9 {l : Launch} {E : bE} {Q : bM → Prop} {v1 : Int} {v2 : Int} {v3 : Int} {v4 : Int} {M : bM} (h : b_wp (F_X4_findSpan_s9 v1 v2 v3 v4 M) (Sum.elim (A_X4_findSpan_9 l E Q v1 M) (X_X4_findSpan_9 l E Q v1 M))) : V l E xX4_findSpan (0, 0) 9 [(0, bR 6), (1, bI v1), (2, bI v2), (3, bI v3), (4, bI v4)] [] M (b_pV Q) := by
  unfold F_X4_findSpan_s9 at h
  refine v_iload (i := 4) 4 rfl dX4_findSpan_9 ?_
  refine v_aload_n (f := 0) 0 rfl dX4_findSpan_11 ?_
  refine v_getI (kf := 11) (kz := 11) rfl kd_6 rfl ⟨by decide, by decide⟩ rfl wf_4_98 dX4_findSpan_12 ?_
  refine v_icmp_ge (tgt := 79) dX4_findSpan_15 (by decide) (fun c1 => ?_) (fun c1 => ?_)
  · replace h := b_wp_t c1 h
    refine v_sub (ls2 := [(0, bR _), (1, bI _), (2, bI _), (3, bI _)]) [0, 1, 2, 3] rfl ?_
    exact h
  · replace h := b_wp_f c1 h
    obtain ⟨g2, h⟩ := b_wp_g h
    refine v_aload_n (f := 0) 0 rfl dX4_findSpan_18 ?_
    refine v_getR (kf := 10) (kz := 10) rfl kd_6 rfl ⟨by decide, by decide⟩ rfl wf_4_21 dX4_findSpan_19 ?_
    refine v_iload (i := 4) 4 rfl dX4_findSpan_22 ?_
    refine v_iaload kd_128 g2 (by decide) dX4_findSpan_24 ?_
    replace h := b_wp_l h
    refine v_istore (i := 5) (ls' := [(5, bI _), (0, bR _), (1, bI _), (2, bI _), (3, bI _), (4, bI _)]) (by decide) dX4_findSpan_25 rfl ?_
    refine v_aload_n (f := 0) 1 rfl dX4_findSpan_27 ?_
    refine v_getR (kf := 3) (kz := 3) rfl kd_6 rfl ⟨by decide, by decide⟩ rfl wf_4_35 dX4_findSpan_28 ?_
    refine v_iload (i := 5) 0 rfl dX4_findSpan_31 ?_
    refine v_aload_n (f := 0) 1 rfl dX4_findSpan_33 ?_
    refine v_getI (kf := 7) (kz := 7) rfl kd_6 rfl ⟨by decide, by decide⟩ rfl wf_4_51 dX4_findSpan_34 ?_
    refine v_cVIp (nA := 2) (As := [bI _, bI _]) (ix := 170) (cf_X7_weightBy (b_wp_b h)) rfl kd_5 rfl rfl wc_X7_weightBy wm_4_170 wi_X7_weightBy ws_X7_weightBy wn_7 ⟨by decide, by decide, by decide⟩ rfl ⟨by decide, by decide⟩ ⟨by decide, by decide⟩ (Nat.le_of_ble_eq_true rfl) dX4_findSpan_37 (fun x4 h => ?_)
    refine v_if_le (tgt := 73) dX4_findSpan_40 (by decide) (fun c5 => ?_) (fun c5 => ?_)
    · replace h := b_wp_t c5 h
      obtain ⟨g6, h⟩ := b_wp_g h
      refine v_iincN (ls' := [(4, bI _), (5, bI _), (0, bR _), (1, bI _), (2, bI _), (3, bI _)]) 5 rfl (by decide) g6 dX4_findSpan_73 rfl ?_
      refine v_goto (tgt := 9) dX4_findSpan_76 (by decide) ?_
      refine v_sub (ls2 := [(0, bR _), (1, bI _), (2, bI _), (3, bI _), (4, bI _)]) [2, 3, 4, 5, 0] rfl ?_
      exact h
    · replace h := b_wp_f c5 h
      obtain ⟨g7, h⟩ := b_wp_g h
      refine v_iload_n (f := 2) 3 rfl dX4_findSpan_43 ?_
      refine v_aload_n (f := 0) 1 rfl dX4_findSpan_44 ?_
      refine v_getR (kf := 3) (kz := 3) rfl kd_6 rfl ⟨by decide, by decide⟩ rfl wf_4_35 dX4_findSpan_45 ?_
      refine v_getR (kf := 5) (kz := 5) rfl kd_5 rfl ⟨by decide, by decide⟩ rfl wf_4_117 dX4_findSpan_48 ?_
      refine v_iload (i := 5) 0 rfl dX4_findSpan_51 ?_
      refine v_iaload kd_113 g7 (by decide) dX4_findSpan_53 ?_
      refine v_mmax wm_4_179 wma_max wmi wmc_max ⟨by decide, by decide⟩ ⟨by decide, by decide⟩ (Nat.le_of_ble_eq_true rfl) dX4_findSpan_54 ?_
      replace h := b_wp_l h
      obtain ⟨g9, h⟩ := b_wp_g h
      refine v_istore_n (g := 2) (i := 2) (ls' := [(2, bI _), (5, bI _), (0, bR _), (1, bI _), (3, bI _), (4, bI _)]) rfl (by decide) dX4_findSpan_57 rfl ?_
      refine v_iload_n (f := 3) 4 rfl dX4_findSpan_58 ?_
      refine v_aload_n (f := 0) 2 rfl dX4_findSpan_59 ?_
      refine v_getR (kf := 3) (kz := 3) rfl kd_6 rfl ⟨by decide, by decide⟩ rfl wf_4_35 dX4_findSpan_60 ?_
      refine v_getR (kf := 6) (kz := 6) rfl kd_5 rfl ⟨by decide, by decide⟩ rfl wf_4_120 dX4_findSpan_63 ?_
      refine v_iload (i := 5) 1 rfl dX4_findSpan_66 ?_
      refine v_iaload kd_114 g9 (by decide) dX4_findSpan_68 ?_
      refine v_mmin wm_4_93 wma_min wmi wmc_min ⟨by decide, by decide⟩ ⟨by decide, by decide⟩ (Nat.le_of_ble_eq_true rfl) dX4_findSpan_69 ?_
      replace h := b_wp_l h
      obtain ⟨g11, h⟩ := b_wp_g h
      refine v_istore_n (g := 3) (i := 3) (ls' := [(3, bI _), (2, bI _), (5, bI _), (0, bR _), (1, bI _), (4, bI _)]) rfl (by decide) dX4_findSpan_72 rfl ?_
      refine v_iincN (ls' := [(4, bI _), (3, bI _), (2, bI _), (5, bI _), (0, bR _), (1, bI _)]) 5 rfl (by decide) g11 dX4_findSpan_73 rfl ?_
      refine v_goto (tgt := 9) dX4_findSpan_76 (by decide) ?_
      refine v_sub (ls2 := [(0, bR _), (1, bI _), (2, bI _), (3, bI _), (4, bI _)]) [4, 5, 2, 1, 0] rfl ?_
      exact h
theorem l_X4_findSpan_9 {l : Launch} {E : bE} {Q : bM → Prop} {v1 : Int} {M : bM} {s : Int × Int × Int} (h : b_wp (b_loop (fun t => F_X4_findSpan_s9 v1 t.1 t.2.1 t.2.2 M) s) (X_X4_findSpan_9 l E Q v1 M)) : A_X4_findSpan_9 l E Q v1 M s := b_loop_wp (fun t h => t_X4_findSpan_s9 h) s h
noncomputable def F_X4_findSpan_b128 (v1 : Int) (v4 : Int) (u1 : Int) (u2 : Int) (M : bM) : Option (bM) :=
  b_g (0 ≤ u1 ∧ u1 < 300) (b_let (b_up M 126 u1 u2) (fun M20 => if v4 = 0 then (some M20) else (b_g ((b_i32 (v1 + 9)) ∧ (0 ≤ (v1 + 9) ∧ (v1 + 9) < 300)) (b_let (b_up M20 126 (v1 + 9) (i_or (M20 126 (v1 + 9)) 8)) (fun M24 => some M24)))))
theorem t_X4_findSpan_b128 {l : Launch} {E : bE} {Q : bM → Prop} {v1 : Int} {v4 : Int} {u1 : Int} {u2 : Int} {M : bM} (h : b_wp (F_X4_findSpan_b128 v1 v4 u1 u2 M) (Q)) : V l E xX4_findSpan (0, 0) 128 [(0, bR 6), (1, bI v1), (4, bI v4)] [bI u2, bI u1, bR 126] M (b_pV Q) := by
  unfold F_X4_findSpan_b128 at h
  obtain ⟨g19, h⟩ := b_wp_g h
  refine v_iastore kd_126 g19 (by decide) dX4_findSpan_128 ?_
  replace h := b_wp_l h
  refine v_iload (i := 4) 2 rfl dX4_findSpan_129 ?_
  refine v_if_eq (tgt := 148) dX4_findSpan_131 (by decide) (fun c21 => ?_) (fun c21 => ?_)
  · replace h := b_wp_t c21 h
    refine v_return rfl dX4_findSpan_148 ⟨by decide, by decide⟩ ?_
    exact ⟨rfl, h⟩
  · replace h := b_wp_f c21 h
    obtain ⟨⟨g22, g23⟩, h⟩ := b_wp_g h
    refine v_aload_n (f := 0) 0 rfl dX4_findSpan_134 ?_
    refine v_getR (kf := 8) (kz := 8) rfl kd_6 rfl ⟨by decide, by decide⟩ rfl wf_4_11 dX4_findSpan_135 ?_
    refine v_iload_n (f := 1) 1 rfl dX4_findSpan_138 ?_
    refine v_bipush ⟨by decide, by decide⟩ (by decide) dX4_findSpan_139 ?_
    refine v_iaddN g22 dX4_findSpan_141 ?_
    refine v_dup2 rfl rfl dX4_findSpan_142 ?_
    refine v_iaload kd_126 g23 (by decide) dX4_findSpan_143 ?_
    refine v_bipush ⟨by decide, by decide⟩ (by decide) dX4_findSpan_144 ?_
    refine v_ior (v := i_or _ _) rfl dX4_findSpan_146 ?_
    refine v_iastore kd_126 g23 (by decide) dX4_findSpan_147 ?_
    replace h := b_wp_l h
    refine v_return rfl dX4_findSpan_148 ⟨by decide, by decide⟩ ?_
    exact ⟨rfl, h⟩
noncomputable def F_X4_findSpan_b108 (v1 : Int) (v3 : Int) (v4 : Int) (u1 : Int) (u2 : Int) (M : bM) : Option (bM) :=
  b_g (0 ≤ u1 ∧ u1 < 300) (b_let (b_up M 126 u1 u2) (fun M16 => b_g (b_i32 (v1 + 4)) (if v4 = 0 then (F_X4_findSpan_b128 v1 v4 (v1 + 4) v3 M16) else (F_X4_findSpan_b128 v1 v4 (v1 + 4) 9999 M16))))
theorem t_X4_findSpan_b108 {l : Launch} {E : bE} {Q : bM → Prop} {v1 : Int} {v3 : Int} {v4 : Int} {u1 : Int} {u2 : Int} {M : bM} (h : b_wp (F_X4_findSpan_b108 v1 v3 v4 u1 u2 M) (Q)) : V l E xX4_findSpan (0, 0) 108 [(0, bR 6), (1, bI v1), (3, bI v3), (4, bI v4)] [bI u2, bI u1, bR 126] M (b_pV Q) := by
  unfold F_X4_findSpan_b108 at h
  obtain ⟨g15, h⟩ := b_wp_g h
  refine v_iastore kd_126 g15 (by decide) dX4_findSpan_108 ?_
  replace h := b_wp_l h
  obtain ⟨g17, h⟩ := b_wp_g h
  refine v_aload_n (f := 0) 0 rfl dX4_findSpan_109 ?_
  refine v_getR (kf := 8) (kz := 8) rfl kd_6 rfl ⟨by decide, by decide⟩ rfl wf_4_11 dX4_findSpan_110 ?_
  refine v_iload_n (f := 1) 1 rfl dX4_findSpan_113 ?_
  refine v_iconst ⟨by decide, by decide⟩ dX4_findSpan_114 ?_
  refine v_iaddN g17 dX4_findSpan_115 ?_
  refine v_iload (i := 4) 3 rfl dX4_findSpan_116 ?_
  refine v_if_eq (tgt := 127) dX4_findSpan_118 (by decide) (fun c18 => ?_) (fun c18 => ?_)
  · replace h := b_wp_t c18 h
    refine v_iload_n (f := 3) 2 rfl dX4_findSpan_127 ?_
    refine v_sub (ls2 := [(0, bR _), (1, bI _), (4, bI _)]) [0, 1, 3] rfl ?_
    exact t_X4_findSpan_b128 h
  · replace h := b_wp_f c18 h
    refine v_sipush ⟨by decide, by decide⟩ (by decide) dX4_findSpan_121 ?_
    refine v_goto (tgt := 128) dX4_findSpan_124 (by decide) ?_
    refine v_sub (ls2 := [(0, bR _), (1, bI _), (4, bI _)]) [0, 1, 3] rfl ?_
    exact t_X4_findSpan_b128 h
noncomputable def F_X4_findSpan_b89 (v1 : Int) (v2 : Int) (v3 : Int) (u0 : Int) (M : bM) : Option (bM) :=
  b_g (b_i32 (v1 + 3)) (if u0 = 0 then (F_X4_findSpan_b108 v1 v3 u0 (v1 + 3) v2 M) else (F_X4_findSpan_b108 v1 v3 u0 (v1 + 3) 0 M))
theorem t_X4_findSpan_b89 {l : Launch} {E : bE} {Q : bM → Prop} {v1 : Int} {v2 : Int} {v3 : Int} {u0 : Int} {M : bM} (h : b_wp (F_X4_findSpan_b89 v1 v2 v3 u0 M) (Q)) : V l E xX4_findSpan (0, 0) 89 [(0, bR 6), (1, bI v1), (2, bI v2), (3, bI v3)] [bI u0] M (b_pV Q) := by
  unfold F_X4_findSpan_b89 at h
  obtain ⟨g13, h⟩ := b_wp_g h
  refine v_istore (i := 4) (ls' := [(4, bI _), (0, bR _), (1, bI _), (2, bI _), (3, bI _)]) (by decide) dX4_findSpan_89 rfl ?_
  refine v_aload_n (f := 0) 1 rfl dX4_findSpan_91 ?_
  refine v_getR (kf := 8) (kz := 8) rfl kd_6 rfl ⟨by decide, by decide⟩ rfl wf_4_11 dX4_findSpan_92 ?_
  refine v_iload_n (f := 1) 2 rfl dX4_findSpan_95 ?_
  refine v_iconst ⟨by decide, by decide⟩ dX4_findSpan_96 ?_
  refine v_iaddN g13 dX4_findSpan_97 ?_
  refine v_iload (i := 4) 0 rfl dX4_findSpan_98 ?_
  refine v_if_eq (tgt := 107) dX4_findSpan_100 (by decide) (fun c14 => ?_) (fun c14 => ?_)
  · replace h := b_wp_t c14 h
    refine v_iload_n (f := 2) 3 rfl dX4_findSpan_107 ?_
    refine v_sub (ls2 := [(0, bR _), (1, bI _), (3, bI _), (4, bI _)]) [1, 2, 4, 0] rfl ?_
    exact t_X4_findSpan_b108 h
  · replace h := b_wp_f c14 h
    refine v_iconst ⟨by decide, by decide⟩ dX4_findSpan_103 ?_
    refine v_goto (tgt := 108) dX4_findSpan_104 (by decide) ?_
    refine v_sub (ls2 := [(0, bR _), (1, bI _), (3, bI _), (4, bI _)]) [1, 2, 4, 0] rfl ?_
    exact t_X4_findSpan_b108 h
noncomputable def F_X4_findSpan_b79 (v1 : Int) (v2 : Int) (v3 : Int) (M : bM) : Option (bM) :=
  if v2 ≤ v3 then (F_X4_findSpan_b89 v1 v2 v3 0 M) else (F_X4_findSpan_b89 v1 v2 v3 1 M)
theorem t_X4_findSpan_b79 {l : Launch} {E : bE} {Q : bM → Prop} {v1 : Int} {v2 : Int} {v3 : Int} {M : bM} (h : b_wp (F_X4_findSpan_b79 v1 v2 v3 M) (Q)) : V l E xX4_findSpan (0, 0) 79 [(0, bR 6), (1, bI v1), (2, bI v2), (3, bI v3)] [] M (b_pV Q) := by
  unfold F_X4_findSpan_b79 at h
  refine v_iload_n (f := 2) 2 rfl dX4_findSpan_79 ?_
  refine v_iload_n (f := 3) 3 rfl dX4_findSpan_80 ?_
  refine v_icmp_le (tgt := 88) dX4_findSpan_81 (by decide) (fun c12 => ?_) (fun c12 => ?_)
  · replace h := b_wp_t c12 h
    refine v_iconst ⟨by decide, by decide⟩ dX4_findSpan_88 ?_
    exact t_X4_findSpan_b89 h
  · replace h := b_wp_f c12 h
    refine v_iconst ⟨by decide, by decide⟩ dX4_findSpan_84 ?_
    refine v_goto (tgt := 89) dX4_findSpan_85 (by decide) ?_
    exact t_X4_findSpan_b89 h
noncomputable def F_X4_findSpan (v1 : Int) (M : bM) : Option (bM) :=
  b_bind (b_loop (fun t => F_X4_findSpan_s9 v1 t.1 t.2.1 t.2.2 M) (0, 9999, 0)) (fun t => F_X4_findSpan_b79 v1 (t.1) (t.2) M)
theorem t_X4_findSpan {l : Launch} {E : bE} {Q : bM → Prop} {v1 : Int} {M : bM} (h : b_wp (F_X4_findSpan v1 M) (Q)) : V l E xX4_findSpan (0, 0) 0 [(0, bR 6), (1, bI v1)] [] M (b_pV Q) := by
  unfold F_X4_findSpan at h
  refine v_iconst ⟨by decide, by decide⟩ dX4_findSpan_0 ?_
  refine v_istore_n (g := 2) (i := 2) (ls' := [(2, bI _), (0, bR _), (1, bI _)]) rfl (by decide) dX4_findSpan_1 rfl ?_
  refine v_sipush ⟨by decide, by decide⟩ (by decide) dX4_findSpan_2 ?_
  refine v_istore_n (g := 3) (i := 3) (ls' := [(3, bI _), (2, bI _), (0, bR _), (1, bI _)]) rfl (by decide) dX4_findSpan_5 rfl ?_
  refine v_iconst ⟨by decide, by decide⟩ dX4_findSpan_6 ?_
  refine v_istore (i := 4) (ls' := [(4, bI _), (3, bI _), (2, bI _), (0, bR _), (1, bI _)]) (by decide) dX4_findSpan_7 rfl ?_
  refine v_sub (ls2 := [(0, bR _), (1, bI _), (2, bI _), (3, bI _), (4, bI _)]) [3, 4, 2, 1, 0] rfl ?_
  refine l_X4_findSpan_9 (b_wp_m (fun t h => ?_) (b_wp_b h))
  show V l E xX4_findSpan (0, 0) 79 [(0, bR 6), (1, bI _), (2, bI _), (3, bI _)] [] _ (b_pV Q)
  exact t_X4_findSpan_b79 h
theorem cf_X4_findSpan {l : Launch} {E : bE} {M : bM} {v1 : Int} {Q : bM → Prop} (h : b_wp (F_X4_findSpan v1 M) Q) : b_C l E xX4_findSpan yX4_findSpan [bR 6, bI v1] M (b_pV Q) := b_met (by decide) ⟨rfl, rfl⟩ (Nat.le_of_ble_eq_true rfl) (fun _ _ => t_X4_findSpan h)
abbrev xX4_know : bX := ("BurntHall$Evidence", prog_6_method_6_code, 4, (Option.none : Option Jvm.ClassFile.FieldType), b_rm 6 0 0, 0, "know")
abbrev yX4_know : MethodName := ⟨"BurntHall$Evidence", "know", "(I)V"⟩
theorem dX4_know_0 : decode prog_6_method_6_code 0 = .ok (.aload_n 0, 1) := by decide +kernel
theorem dX4_know_1 : decode prog_6_method_6_code 1 = .ok (.getfield 27, 3) := by decide +kernel
theorem dX4_know_4 : decode prog_6_method_6_code 4 = .ok (.iload_n 1, 1) := by decide +kernel
theorem dX4_know_5 : decode prog_6_method_6_code 5 = .ok (.invokevirtual 60, 3) := by decide +kernel
theorem dX4_know_8 : decode prog_6_method_6_code 8 = .ok (.aload_n 0, 1) := by decide +kernel
theorem dX4_know_9 : decode prog_6_method_6_code 9 = .ok (.getfield 47, 3) := by decide +kernel
theorem dX4_know_12 : decode prog_6_method_6_code 12 = .ok (.ifCond .eq 12, 3) := by decide +kernel
theorem dX4_know_15 : decode prog_6_method_6_code 15 = .ok (.iload_n 1, 1) := by decide +kernel
theorem dX4_know_16 : decode prog_6_method_6_code 16 = .ok (.aload_n 0, 1) := by decide +kernel
theorem dX4_know_17 : decode prog_6_method_6_code 17 = .ok (.getfield 66, 3) := by decide +kernel
theorem dX4_know_20 : decode prog_6_method_6_code 20 = .ok (.if_icmp .ne 4, 3) := by decide +kernel
theorem dX4_know_23 : decode prog_6_method_6_code 23 = .ok (.return_, 1) := by decide +kernel
theorem dX4_know_24 : decode prog_6_method_6_code 24 = .ok (.aload_n 0, 1) := by decide +kernel
theorem dX4_know_25 : decode prog_6_method_6_code 25 = .ok (.iconst 1, 1) := by decide +kernel
theorem dX4_know_26 : decode prog_6_method_6_code 26 = .ok (.putfield 47, 3) := by decide +kernel
theorem dX4_know_29 : decode prog_6_method_6_code 29 = .ok (.aload_n 0, 1) := by decide +kernel
theorem dX4_know_30 : decode prog_6_method_6_code 30 = .ok (.iload_n 1, 1) := by decide +kernel
theorem dX4_know_31 : decode prog_6_method_6_code 31 = .ok (.putfield 66, 3) := by decide +kernel
theorem dX4_know_34 : decode prog_6_method_6_code 34 = .ok (.aload_n 0, 1) := by decide +kernel
theorem dX4_know_35 : decode prog_6_method_6_code 35 = .ok (.aload_n 0, 1) := by decide +kernel
theorem dX4_know_36 : decode prog_6_method_6_code 36 = .ok (.getfield 39, 3) := by decide +kernel
theorem dX4_know_39 : decode prog_6_method_6_code 39 = .ok (.iload_n 1, 1) := by decide +kernel
theorem dX4_know_40 : decode prog_6_method_6_code 40 = .ok (.invokevirtual 69, 3) := by decide +kernel
theorem dX4_know_43 : decode prog_6_method_6_code 43 = .ok (.putfield 51, 3) := by decide +kernel
theorem dX4_know_46 : decode prog_6_method_6_code 46 = .ok (.iconst 0, 1) := by decide +kernel
theorem dX4_know_47 : decode prog_6_method_6_code 47 = .ok (.istore_n 2, 1) := by decide +kernel
theorem dX4_know_48 : decode prog_6_method_6_code 48 = .ok (.iload_n 2, 1) := by decide +kernel
theorem dX4_know_49 : decode prog_6_method_6_code 49 = .ok (.aload_n 0, 1) := by decide +kernel
theorem dX4_know_50 : decode prog_6_method_6_code 50 = .ok (.getfield 35, 3) := by decide +kernel
theorem dX4_know_53 : decode prog_6_method_6_code 53 = .ok (.getfield 73, 3) := by decide +kernel
theorem dX4_know_56 : decode prog_6_method_6_code 56 = .ok (.if_icmp .ge 48, 3) := by decide +kernel
theorem dX4_know_59 : decode prog_6_method_6_code 59 = .ok (.aload_n 0, 1) := by decide +kernel
theorem dX4_know_60 : decode prog_6_method_6_code 60 = .ok (.getfield 17, 3) := by decide +kernel
theorem dX4_know_63 : decode prog_6_method_6_code 63 = .ok (.iload_n 2, 1) := by decide +kernel
theorem dX4_know_64 : decode prog_6_method_6_code 64 = .ok (.aload_n 0, 1) := by decide +kernel
theorem dX4_know_65 : decode prog_6_method_6_code 65 = .ok (.getfield 35, 3) := by decide +kernel
theorem dX4_know_68 : decode prog_6_method_6_code 68 = .ok (.getfield 76, 3) := by decide +kernel
theorem dX4_know_71 : decode prog_6_method_6_code 71 = .ok (.iload_n 2, 1) := by decide +kernel
theorem dX4_know_72 : decode prog_6_method_6_code 72 = .ok (.iaload, 1) := by decide +kernel
theorem dX4_know_73 : decode prog_6_method_6_code 73 = .ok (.aload_n 0, 1) := by decide +kernel
theorem dX4_know_74 : decode prog_6_method_6_code 74 = .ok (.getfield 66, 3) := by decide +kernel
theorem dX4_know_77 : decode prog_6_method_6_code 77 = .ok (.if_icmp .gt 19, 3) := by decide +kernel
theorem dX4_know_80 : decode prog_6_method_6_code 80 = .ok (.aload_n 0, 1) := by decide +kernel
theorem dX4_know_81 : decode prog_6_method_6_code 81 = .ok (.iload_n 2, 1) := by decide +kernel
theorem dX4_know_82 : decode prog_6_method_6_code 82 = .ok (.aload_n 0, 1) := by decide +kernel
theorem dX4_know_83 : decode prog_6_method_6_code 83 = .ok (.getfield 66, 3) := by decide +kernel
theorem dX4_know_86 : decode prog_6_method_6_code 86 = .ok (.invokevirtual 79, 3) := by decide +kernel
theorem dX4_know_89 : decode prog_6_method_6_code 89 = .ok (.ifCond .ne 7, 3) := by decide +kernel
theorem dX4_know_92 : decode prog_6_method_6_code 92 = .ok (.iconst 1, 1) := by decide +kernel
theorem dX4_know_93 : decode prog_6_method_6_code 93 = .ok (.goto 4, 3) := by decide +kernel
theorem dX4_know_96 : decode prog_6_method_6_code 96 = .ok (.iconst 0, 1) := by decide +kernel
theorem dX4_know_97 : decode prog_6_method_6_code 97 = .ok (.bastore, 1) := by decide +kernel
theorem dX4_know_98 : decode prog_6_method_6_code 98 = .ok (.iinc 2 1, 3) := by decide +kernel
theorem dX4_know_101 : decode prog_6_method_6_code 101 = .ok (.goto (-53), 3) := by decide +kernel
theorem dX4_know_104 : decode prog_6_method_6_code 104 = .ok (.iconst 0, 1) := by decide +kernel
theorem dX4_know_105 : decode prog_6_method_6_code 105 = .ok (.istore_n 2, 1) := by decide +kernel
theorem dX4_know_106 : decode prog_6_method_6_code 106 = .ok (.iload_n 2, 1) := by decide +kernel
theorem dX4_know_107 : decode prog_6_method_6_code 107 = .ok (.aload_n 0, 1) := by decide +kernel
theorem dX4_know_108 : decode prog_6_method_6_code 108 = .ok (.getfield 43, 3) := by decide +kernel
theorem dX4_know_111 : decode prog_6_method_6_code 111 = .ok (.if_icmp .ge 114, 3) := by decide +kernel
theorem dX4_know_114 : decode prog_6_method_6_code 114 = .ok (.aload_n 0, 1) := by decide +kernel
theorem dX4_know_115 : decode prog_6_method_6_code 115 = .ok (.iload_n 2, 1) := by decide +kernel
theorem dX4_know_116 : decode prog_6_method_6_code 116 = .ok (.invokevirtual 83, 3) := by decide +kernel
theorem dX4_know_119 : decode prog_6_method_6_code 119 = .ok (.aload_n 0, 1) := by decide +kernel
theorem dX4_know_120 : decode prog_6_method_6_code 120 = .ok (.getfield 11, 3) := by decide +kernel
theorem dX4_know_123 : decode prog_6_method_6_code 123 = .ok (.iload_n 2, 1) := by decide +kernel
theorem dX4_know_124 : decode prog_6_method_6_code 124 = .ok (.bipush 10, 2) := by decide +kernel
theorem dX4_know_126 : decode prog_6_method_6_code 126 = .ok (.imul, 1) := by decide +kernel
theorem dX4_know_127 : decode prog_6_method_6_code 127 = .ok (.bipush 9, 2) := by decide +kernel
theorem dX4_know_129 : decode prog_6_method_6_code 129 = .ok (.iadd, 1) := by decide +kernel
theorem dX4_know_130 : decode prog_6_method_6_code 130 = .ok (.iconst 0, 1) := by decide +kernel
theorem dX4_know_131 : decode prog_6_method_6_code 131 = .ok (.iastore, 1) := by decide +kernel
theorem dX4_know_132 : decode prog_6_method_6_code 132 = .ok (.iconst 0, 1) := by decide +kernel
theorem dX4_know_133 : decode prog_6_method_6_code 133 = .ok (.istore_n 3, 1) := by decide +kernel
theorem dX4_know_134 : decode prog_6_method_6_code 134 = .ok (.iload_n 3, 1) := by decide +kernel
theorem dX4_know_135 : decode prog_6_method_6_code 135 = .ok (.iconst 2, 1) := by decide +kernel
theorem dX4_know_136 : decode prog_6_method_6_code 136 = .ok (.if_icmp .gt 18, 3) := by decide +kernel
theorem dX4_know_139 : decode prog_6_method_6_code 139 = .ok (.aload_n 0, 1) := by decide +kernel
theorem dX4_know_140 : decode prog_6_method_6_code 140 = .ok (.iload_n 2, 1) := by decide +kernel
theorem dX4_know_141 : decode prog_6_method_6_code 141 = .ok (.bipush 10, 2) := by decide +kernel
theorem dX4_know_143 : decode prog_6_method_6_code 143 = .ok (.imul, 1) := by decide +kernel
theorem dX4_know_144 : decode prog_6_method_6_code 144 = .ok (.iload_n 3, 1) := by decide +kernel
theorem dX4_know_145 : decode prog_6_method_6_code 145 = .ok (.invokevirtual 86, 3) := by decide +kernel
theorem dX4_know_148 : decode prog_6_method_6_code 148 = .ok (.iinc 3 1, 3) := by decide +kernel
theorem dX4_know_151 : decode prog_6_method_6_code 151 = .ok (.goto (-17), 3) := by decide +kernel
theorem dX4_know_154 : decode prog_6_method_6_code 154 = .ok (.aload_n 0, 1) := by decide +kernel
theorem dX4_know_155 : decode prog_6_method_6_code 155 = .ok (.iload_n 2, 1) := by decide +kernel
theorem dX4_know_156 : decode prog_6_method_6_code 156 = .ok (.bipush 10, 2) := by decide +kernel
theorem dX4_know_158 : decode prog_6_method_6_code 158 = .ok (.imul, 1) := by decide +kernel
theorem dX4_know_159 : decode prog_6_method_6_code 159 = .ok (.invokevirtual 90, 3) := by decide +kernel
theorem dX4_know_162 : decode prog_6_method_6_code 162 = .ok (.aload_n 0, 1) := by decide +kernel
theorem dX4_know_163 : decode prog_6_method_6_code 163 = .ok (.getfield 11, 3) := by decide +kernel
theorem dX4_know_166 : decode prog_6_method_6_code 166 = .ok (.iload_n 2, 1) := by decide +kernel
theorem dX4_know_167 : decode prog_6_method_6_code 167 = .ok (.bipush 10, 2) := by decide +kernel
theorem dX4_know_169 : decode prog_6_method_6_code 169 = .ok (.imul, 1) := by decide +kernel
theorem dX4_know_170 : decode prog_6_method_6_code 170 = .ok (.bipush 8, 2) := by decide +kernel
theorem dX4_know_172 : decode prog_6_method_6_code 172 = .ok (.iadd, 1) := by decide +kernel
theorem dX4_know_173 : decode prog_6_method_6_code 173 = .ok (.aload_n 0, 1) := by decide +kernel
theorem dX4_know_174 : decode prog_6_method_6_code 174 = .ok (.getfield 11, 3) := by decide +kernel
theorem dX4_know_177 : decode prog_6_method_6_code 177 = .ok (.iload_n 2, 1) := by decide +kernel
theorem dX4_know_178 : decode prog_6_method_6_code 178 = .ok (.bipush 10, 2) := by decide +kernel
theorem dX4_know_180 : decode prog_6_method_6_code 180 = .ok (.imul, 1) := by decide +kernel
theorem dX4_know_181 : decode prog_6_method_6_code 181 = .ok (.iconst 5, 1) := by decide +kernel
theorem dX4_know_182 : decode prog_6_method_6_code 182 = .ok (.iadd, 1) := by decide +kernel
theorem dX4_know_183 : decode prog_6_method_6_code 183 = .ok (.iconst 0, 1) := by decide +kernel
theorem dX4_know_184 : decode prog_6_method_6_code 184 = .ok (.iadd, 1) := by decide +kernel
theorem dX4_know_185 : decode prog_6_method_6_code 185 = .ok (.iaload, 1) := by decide +kernel
theorem dX4_know_186 : decode prog_6_method_6_code 186 = .ok (.aload_n 0, 1) := by decide +kernel
theorem dX4_know_187 : decode prog_6_method_6_code 187 = .ok (.getfield 11, 3) := by decide +kernel
theorem dX4_know_190 : decode prog_6_method_6_code 190 = .ok (.iload_n 2, 1) := by decide +kernel
theorem dX4_know_191 : decode prog_6_method_6_code 191 = .ok (.bipush 10, 2) := by decide +kernel
theorem dX4_know_193 : decode prog_6_method_6_code 193 = .ok (.imul, 1) := by decide +kernel
theorem dX4_know_194 : decode prog_6_method_6_code 194 = .ok (.iconst 5, 1) := by decide +kernel
theorem dX4_know_195 : decode prog_6_method_6_code 195 = .ok (.iadd, 1) := by decide +kernel
theorem dX4_know_196 : decode prog_6_method_6_code 196 = .ok (.iconst 1, 1) := by decide +kernel
theorem dX4_know_197 : decode prog_6_method_6_code 197 = .ok (.iadd, 1) := by decide +kernel
theorem dX4_know_198 : decode prog_6_method_6_code 198 = .ok (.iaload, 1) := by decide +kernel
theorem dX4_know_199 : decode prog_6_method_6_code 199 = .ok (.aload_n 0, 1) := by decide +kernel
theorem dX4_know_200 : decode prog_6_method_6_code 200 = .ok (.getfield 11, 3) := by decide +kernel
theorem dX4_know_203 : decode prog_6_method_6_code 203 = .ok (.iload_n 2, 1) := by decide +kernel
theorem dX4_know_204 : decode prog_6_method_6_code 204 = .ok (.bipush 10, 2) := by decide +kernel
theorem dX4_know_206 : decode prog_6_method_6_code 206 = .ok (.imul, 1) := by decide +kernel
theorem dX4_know_207 : decode prog_6_method_6_code 207 = .ok (.iconst 5, 1) := by decide +kernel
theorem dX4_know_208 : decode prog_6_method_6_code 208 = .ok (.iadd, 1) := by decide +kernel
theorem dX4_know_209 : decode prog_6_method_6_code 209 = .ok (.iconst 2, 1) := by decide +kernel
theorem dX4_know_210 : decode prog_6_method_6_code 210 = .ok (.iadd, 1) := by decide +kernel
theorem dX4_know_211 : decode prog_6_method_6_code 211 = .ok (.iaload, 1) := by decide +kernel
theorem dX4_know_212 : decode prog_6_method_6_code 212 = .ok (.invokestatic 93, 3) := by decide +kernel
theorem dX4_know_215 : decode prog_6_method_6_code 215 = .ok (.invokestatic 93, 3) := by decide +kernel
theorem dX4_know_218 : decode prog_6_method_6_code 218 = .ok (.iastore, 1) := by decide +kernel
theorem dX4_know_219 : decode prog_6_method_6_code 219 = .ok (.iinc 2 1, 3) := by decide +kernel
theorem dX4_know_222 : decode prog_6_method_6_code 222 = .ok (.goto (-116), 3) := by decide +kernel
theorem dX4_know_225 : decode prog_6_method_6_code 225 = .ok (.return_, 1) := by decide +kernel
abbrev A_X4_know_48 (l : Launch) (E : bE) (Q : bM → Prop) : (Int × bM) → Prop := (fun t : Int × bM => V l E xX4_know (0, 0) 48 [(0, bR 6), (2, bI (t.1))] [] t.2 (b_pV Q))
abbrev X_X4_know_48 (l : Launch) (E : bE) (Q : bM → Prop) : (bM) → Prop := (fun t : bM => V l E xX4_know (0, 0) 104 [(0, bR 6)] [] t (b_pV Q))
noncomputable def F_X4_know_b97 (v2 : Int) (u1 : Int) (u2 : Int) (M : bM) : Option ((Int × bM) ⊕ (bM)) :=
  b_g ((0 ≤ u1 ∧ u1 < 120) ∧ (u2 = 0 ∨ u2 = 1)) (b_let (b_up M 127 u1 u2) (fun M12 => b_g (b_i32 (v2 + 1)) (some (.inl ((v2 + 1), M12)))))
theorem t_X4_know_b97 {l : Launch} {E : bE} {Q : bM → Prop} {v2 : Int} {u1 : Int} {u2 : Int} {M : bM} (h : b_wp (F_X4_know_b97 v2 u1 u2 M) (Sum.elim (A_X4_know_48 l E Q ) (X_X4_know_48 l E Q ))) : V l E xX4_know (0, 0) 97 [(0, bR 6), (2, bI v2)] [bI u2, bI u1, bR 127] M (b_pV Q) := by
  unfold F_X4_know_b97 at h
  obtain ⟨⟨g10, g11⟩, h⟩ := b_wp_g h
  refine v_zastore kd_127 g10 (by decide) (b_narz g11) dX4_know_97 ?_
  replace h := b_wp_l h
  obtain ⟨g13, h⟩ := b_wp_g h
  refine v_iincN (ls' := [(2, bI _), (0, bR _)]) 1 rfl (by decide) g13 dX4_know_98 rfl ?_
  refine v_goto (tgt := 48) dX4_know_101 (by decide) ?_
  refine v_sub (ls2 := [(0, bR _), (2, bI _)]) [1, 0] rfl ?_
  exact h
noncomputable def F_X4_know_b96 (v2 : Int) (u1 : Int) (M : bM) : Option ((Int × bM) ⊕ (bM)) :=
  F_X4_know_b97 v2 u1 0 M
theorem t_X4_know_b96 {l : Launch} {E : bE} {Q : bM → Prop} {v2 : Int} {u1 : Int} {M : bM} (h : b_wp (F_X4_know_b96 v2 u1 M) (Sum.elim (A_X4_know_48 l E Q ) (X_X4_know_48 l E Q ))) : V l E xX4_know (0, 0) 96 [(0, bR 6), (2, bI v2)] [bI u1, bR 127] M (b_pV Q) := by
  unfold F_X4_know_b96 at h
  refine v_iconst ⟨by decide, by decide⟩ dX4_know_96 ?_
  exact t_X4_know_b97 h
noncomputable def F_X4_know_s48 (v2 : Int) (M : bM) : Option ((Int × bM) ⊕ (bM)) :=
  if (M 5 0) ≤ v2 then (some (.inr (M))) else (b_g (0 ≤ v2 ∧ v2 < 120) (if (M 6 6) < (M 112 v2) then (F_X4_know_b96 v2 v2 M) else (b_bind (F_X4_reason v2 (M 6 6) M) (fun x14 => if x14 = 0 then (F_X4_know_b97 v2 v2 1 M) else (F_X4_know_b96 v2 v2 M)))))
theorem t_X4_know_s48 {l : Launch} {E : bE} {Q : bM → Prop} {v2 : Int} {M : bM} (h : b_wp (F_X4_know_s48 v2 M) (Sum.elim (A_X4_know_48 l E Q ) (X_X4_know_48 l E Q ))) : V l E xX4_know (0, 0) 48 [(0, bR 6), (2, bI v2)] [] M (b_pV Q) := by
  unfold F_X4_know_s48 at h
  refine v_iload_n (f := 2) 1 rfl dX4_know_48 ?_
  refine v_aload_n (f := 0) 0 rfl dX4_know_49 ?_
  refine v_getR (kf := 3) (kz := 3) rfl kd_6 rfl ⟨by decide, by decide⟩ rfl wf_4_35 dX4_know_50 ?_
  refine v_getI (kf := 0) (kz := 0) rfl kd_5 rfl ⟨by decide, by decide⟩ rfl wf_4_73 dX4_know_53 ?_
  refine v_icmp_ge (tgt := 104) dX4_know_56 (by decide) (fun c7 => ?_) (fun c7 => ?_)
  · replace h := b_wp_t c7 h
    refine v_sub (ls2 := [(0, bR _)]) [0] rfl ?_
    exact h
  · replace h := b_wp_f c7 h
    obtain ⟨g8, h⟩ := b_wp_g h
    refine v_aload_n (f := 0) 0 rfl dX4_know_59 ?_
    refine v_getR (kf := 9) (kz := 9) rfl kd_6 rfl ⟨by decide, by decide⟩ rfl wf_4_17 dX4_know_60 ?_
    refine v_iload_n (f := 2) 1 rfl dX4_know_63 ?_
    refine v_aload_n (f := 0) 0 rfl dX4_know_64 ?_
    refine v_getR (kf := 3) (kz := 3) rfl kd_6 rfl ⟨by decide, by decide⟩ rfl wf_4_35 dX4_know_65 ?_
    refine v_getR (kf := 4) (kz := 4) rfl kd_5 rfl ⟨by decide, by decide⟩ rfl wf_4_76 dX4_know_68 ?_
    refine v_iload_n (f := 2) 1 rfl dX4_know_71 ?_
    refine v_iaload kd_112 g8 (by decide) dX4_know_72 ?_
    refine v_aload_n (f := 0) 0 rfl dX4_know_73 ?_
    refine v_getI (kf := 6) (kz := 6) rfl kd_6 rfl ⟨by decide, by decide⟩ rfl wf_4_66 dX4_know_74 ?_
    refine v_icmp_gt (tgt := 96) dX4_know_77 (by decide) (fun c9 => ?_) (fun c9 => ?_)
    · replace h := b_wp_t c9 h
      exact t_X4_know_b96 h
    · replace h := b_wp_f c9 h
      refine v_aload_n (f := 0) 0 rfl dX4_know_80 ?_
      refine v_iload_n (f := 2) 1 rfl dX4_know_81 ?_
      refine v_aload_n (f := 0) 0 rfl dX4_know_82 ?_
      refine v_getI (kf := 6) (kz := 6) rfl kd_6 rfl ⟨by decide, by decide⟩ rfl wf_4_66 dX4_know_83 ?_
      refine v_cVIp (nA := 2) (As := [bI _, bI _]) (ix := 79) (cf_X4_reason (b_wp_b h)) rfl kd_6 rfl rfl wc_X4_reason wm_4_79 wi_X4_reason ws_X4_reason wn_4 ⟨by decide, by decide, by decide⟩ rfl ⟨by decide, by decide⟩ ⟨by decide, by decide⟩ (Nat.le_of_ble_eq_true rfl) dX4_know_86 (fun x14 h => ?_)
      refine v_if_ne (tgt := 96) dX4_know_89 (by decide) (fun c15 => ?_) (fun c15 => ?_)
      · replace h := b_wp_f c15 h
        exact t_X4_know_b96 h
      · replace h := b_wp_t c15 h
        refine v_iconst ⟨by decide, by decide⟩ dX4_know_92 ?_
        refine v_goto (tgt := 97) dX4_know_93 (by decide) ?_
        exact t_X4_know_b97 h
theorem l_X4_know_48 {l : Launch} {E : bE} {Q : bM → Prop} {s : Int × bM} (h : b_wp (b_loop (fun t => F_X4_know_s48 t.1 t.2) s) (X_X4_know_48 l E Q )) : A_X4_know_48 l E Q  s := b_loop_wp (fun t h => t_X4_know_s48 h) s h
abbrev A_X4_know_106 (l : Launch) (E : bE) (Q : bM → Prop) : (Int × bM) → Prop := (fun t : Int × bM => V l E xX4_know (0, 0) 106 [(0, bR 6), (2, bI (t.1))] [] t.2 (b_pV Q))
abbrev X_X4_know_106 (l : Launch) (E : bE) (Q : bM → Prop) : (bM) → Prop := (fun t : bM => V l E xX4_know (0, 0) 225 [] [] t (b_pV Q))
abbrev A_X4_know_134 (l : Launch) (E : bE) (Q : bM → Prop) (v2 : Int) : (Int × bM) → Prop := (fun t : Int × bM => V l E xX4_know (0, 0) 134 [(0, bR 6), (2, bI v2), (3, bI (t.1))] [] t.2 (b_pV Q))
abbrev X_X4_know_134 (l : Launch) (E : bE) (Q : bM → Prop) (v2 : Int) : (bM) → Prop := (fun t : bM => V l E xX4_know (0, 0) 154 [(0, bR 6), (2, bI v2)] [] t (b_pV Q))
noncomputable def F_X4_know_s134 (v2 : Int) (v3 : Int) (M : bM) : Option ((Int × bM) ⊕ (bM)) :=
  if 2 < v3 then (some (.inr (M))) else (b_g (b_i32 (v2 * 10)) (b_bind (F_X4_decide (v2 * 10) v3 M) (fun M24 => b_g (b_i32 (v3 + 1)) (some (.inl ((v3 + 1), M24))))))
theorem t_X4_know_s134 {l : Launch} {E : bE} {Q : bM → Prop} {v2 : Int} {v3 : Int} {M : bM} (h : b_wp (F_X4_know_s134 v2 v3 M) (Sum.elim (A_X4_know_134 l E Q v2) (X_X4_know_134 l E Q v2))) : V l E xX4_know (0, 0) 134 [(0, bR 6), (2, bI v2), (3, bI v3)] [] M (b_pV Q) := by
  unfold F_X4_know_s134 at h
  refine v_iload_n (f := 3) 2 rfl dX4_know_134 ?_
  refine v_iconst ⟨by decide, by decide⟩ dX4_know_135 ?_
  refine v_icmp_gt (tgt := 154) dX4_know_136 (by decide) (fun c22 => ?_) (fun c22 => ?_)
  · replace h := b_wp_t c22 h
    refine v_sub (ls2 := [(0, bR _), (2, bI _)]) [0, 1] rfl ?_
    exact h
  · replace h := b_wp_f c22 h
    obtain ⟨g23, h⟩ := b_wp_g h
    refine v_aload_n (f := 0) 0 rfl dX4_know_139 ?_
    refine v_iload_n (f := 2) 1 rfl dX4_know_140 ?_
    refine v_bipush ⟨by decide, by decide⟩ (by decide) dX4_know_141 ?_
    refine v_imulN g23 dX4_know_143 ?_
    refine v_iload_n (f := 3) 2 rfl dX4_know_144 ?_
    refine v_cVV (nA := 2) (As := [bI _, bI _]) (ix := 86) (cf_X4_decide (b_wp_b h)) rfl kd_6 rfl rfl wc_X4_decide wm_4_86 wi_X4_decide ws_X4_decide wn_4 ⟨by decide, by decide, by decide⟩ rfl ⟨by decide, by decide⟩ ⟨by decide, by decide⟩ (Nat.le_of_ble_eq_true rfl) dX4_know_145 (fun M24 h => ?_)
    obtain ⟨g25, h⟩ := b_wp_g h
    refine v_iincN (ls' := [(3, bI _), (0, bR _), (2, bI _)]) 2 rfl (by decide) g25 dX4_know_148 rfl ?_
    refine v_goto (tgt := 134) dX4_know_151 (by decide) ?_
    refine v_sub (ls2 := [(0, bR _), (2, bI _), (3, bI _)]) [1, 2, 0] rfl ?_
    exact h
theorem l_X4_know_134 {l : Launch} {E : bE} {Q : bM → Prop} {v2 : Int} {s : Int × bM} (h : b_wp (b_loop (fun t => F_X4_know_s134 v2 t.1 t.2) s) (X_X4_know_134 l E Q v2)) : A_X4_know_134 l E Q v2 s := b_loop_wp (fun t h => t_X4_know_s134 h) s h
noncomputable def F_X4_know_b154 (v2 : Int) (M : bM) : Option ((Int × bM) ⊕ (bM)) :=
  b_g (b_i32 (v2 * 10)) (b_bind (F_X4_findSpan (v2 * 10) M) (fun M27 => b_g ((b_i32 (v2 * 10)) ∧ (b_i32 ((v2 * 10) + 8)) ∧ (b_i32 ((v2 * 10) + 5)) ∧ (b_i32 (((v2 * 10) + 5) + 0)) ∧ (0 ≤ (((v2 * 10) + 5) + 0) ∧ (((v2 * 10) + 5) + 0) < 300) ∧ (b_i32 (((v2 * 10) + 5) + 1)) ∧ (0 ≤ (((v2 * 10) + 5) + 1) ∧ (((v2 * 10) + 5) + 1) < 300) ∧ (b_i32 (((v2 * 10) + 5) + 2)) ∧ (0 ≤ (((v2 * 10) + 5) + 2) ∧ (((v2 * 10) + 5) + 2) < 300) ∧ (0 ≤ ((v2 * 10) + 8) ∧ ((v2 * 10) + 8) < 300)) (b_let (b_up M27 126 ((v2 * 10) + 8) (min (M27 126 (((v2 * 10) + 5) + 0)) (min (M27 126 (((v2 * 10) + 5) + 1)) (M27 126 (((v2 * 10) + 5) + 2))))) (fun M38 => b_g (b_i32 (v2 + 1)) (some (.inl ((v2 + 1), M38)))))))
theorem t_X4_know_b154 {l : Launch} {E : bE} {Q : bM → Prop} {v2 : Int} {M : bM} (h : b_wp (F_X4_know_b154 v2 M) (Sum.elim (A_X4_know_106 l E Q ) (X_X4_know_106 l E Q ))) : V l E xX4_know (0, 0) 154 [(0, bR 6), (2, bI v2)] [] M (b_pV Q) := by
  unfold F_X4_know_b154 at h
  obtain ⟨g26, h⟩ := b_wp_g h
  refine v_aload_n (f := 0) 0 rfl dX4_know_154 ?_
  refine v_iload_n (f := 2) 1 rfl dX4_know_155 ?_
  refine v_bipush ⟨by decide, by decide⟩ (by decide) dX4_know_156 ?_
  refine v_imulN g26 dX4_know_158 ?_
  refine v_cVV (nA := 1) (As := [bI _]) (ix := 90) (cf_X4_findSpan (b_wp_b h)) rfl kd_6 rfl rfl wc_X4_findSpan wm_4_90 wi_X4_findSpan ws_X4_findSpan wn_4 ⟨by decide, by decide, by decide⟩ rfl ⟨by decide, by decide⟩ ⟨by decide, by decide⟩ (Nat.le_of_ble_eq_true rfl) dX4_know_159 (fun M27 h => ?_)
  obtain ⟨⟨g28, g29, g30, g31, g32, g33, g34, g35, g36, g37⟩, h⟩ := b_wp_g h
  refine v_aload_n (f := 0) 0 rfl dX4_know_162 ?_
  refine v_getR (kf := 8) (kz := 8) rfl kd_6 rfl ⟨by decide, by decide⟩ rfl wf_4_11 dX4_know_163 ?_
  refine v_iload_n (f := 2) 1 rfl dX4_know_166 ?_
  refine v_bipush ⟨by decide, by decide⟩ (by decide) dX4_know_167 ?_
  refine v_imulN g28 dX4_know_169 ?_
  refine v_bipush ⟨by decide, by decide⟩ (by decide) dX4_know_170 ?_
  refine v_iaddN g29 dX4_know_172 ?_
  refine v_aload_n (f := 0) 0 rfl dX4_know_173 ?_
  refine v_getR (kf := 8) (kz := 8) rfl kd_6 rfl ⟨by decide, by decide⟩ rfl wf_4_11 dX4_know_174 ?_
  refine v_iload_n (f := 2) 1 rfl dX4_know_177 ?_
  refine v_bipush ⟨by decide, by decide⟩ (by decide) dX4_know_178 ?_
  refine v_imulN g28 dX4_know_180 ?_
  refine v_iconst ⟨by decide, by decide⟩ dX4_know_181 ?_
  refine v_iaddN g30 dX4_know_182 ?_
  refine v_iconst ⟨by decide, by decide⟩ dX4_know_183 ?_
  refine v_iaddN g31 dX4_know_184 ?_
  refine v_iaload kd_126 g32 (by decide) dX4_know_185 ?_
  refine v_aload_n (f := 0) 0 rfl dX4_know_186 ?_
  refine v_getR (kf := 8) (kz := 8) rfl kd_6 rfl ⟨by decide, by decide⟩ rfl wf_4_11 dX4_know_187 ?_
  refine v_iload_n (f := 2) 1 rfl dX4_know_190 ?_
  refine v_bipush ⟨by decide, by decide⟩ (by decide) dX4_know_191 ?_
  refine v_imulN g28 dX4_know_193 ?_
  refine v_iconst ⟨by decide, by decide⟩ dX4_know_194 ?_
  refine v_iaddN g30 dX4_know_195 ?_
  refine v_iconst ⟨by decide, by decide⟩ dX4_know_196 ?_
  refine v_iaddN g33 dX4_know_197 ?_
  refine v_iaload kd_126 g34 (by decide) dX4_know_198 ?_
  refine v_aload_n (f := 0) 0 rfl dX4_know_199 ?_
  refine v_getR (kf := 8) (kz := 8) rfl kd_6 rfl ⟨by decide, by decide⟩ rfl wf_4_11 dX4_know_200 ?_
  refine v_iload_n (f := 2) 1 rfl dX4_know_203 ?_
  refine v_bipush ⟨by decide, by decide⟩ (by decide) dX4_know_204 ?_
  refine v_imulN g28 dX4_know_206 ?_
  refine v_iconst ⟨by decide, by decide⟩ dX4_know_207 ?_
  refine v_iaddN g30 dX4_know_208 ?_
  refine v_iconst ⟨by decide, by decide⟩ dX4_know_209 ?_
  refine v_iaddN g35 dX4_know_210 ?_
  refine v_iaload kd_126 g36 (by decide) dX4_know_211 ?_
  refine v_mmin wm_4_93 wma_min wmi wmc_min ⟨by decide, by decide⟩ ⟨by decide, by decide⟩ (Nat.le_of_ble_eq_true rfl) dX4_know_212 ?_
  refine v_mmin wm_4_93 wma_min wmi wmc_min ⟨by decide, by decide⟩ ⟨by decide, by decide⟩ (Nat.le_of_ble_eq_true rfl) dX4_know_215 ?_
  refine v_iastore kd_126 g37 (by decide) dX4_know_218 ?_
  replace h := b_wp_l h
  obtain ⟨g39, h⟩ := b_wp_g h
  refine v_iincN (ls' := [(2, bI _), (0, bR _)]) 1 rfl (by decide) g39 dX4_know_219 rfl ?_
  refine v_goto (tgt := 106) dX4_know_222 (by decide) ?_
  refine v_sub (ls2 := [(0, bR _), (2, bI _)]) [1, 0] rfl ?_
  exact h
noncomputable def F_X4_know_s106 (v2 : Int) (M : bM) : Option ((Int × bM) ⊕ (bM)) :=
  if (M 6 0) ≤ v2 then (some (.inr (M))) else (b_bind (F_X4_findWitnesses v2 M) (fun M17 => b_g ((b_i32 (v2 * 10)) ∧ (b_i32 ((v2 * 10) + 9)) ∧ (0 ≤ ((v2 * 10) + 9) ∧ ((v2 * 10) + 9) < 300)) (b_let (b_up M17 126 ((v2 * 10) + 9) 0) (fun M21 => b_bind (b_loop (fun t => F_X4_know_s134 v2 t.1 t.2) (0, M21)) (fun t => F_X4_know_b154 v2 t)))))
theorem t_X4_know_s106 {l : Launch} {E : bE} {Q : bM → Prop} {v2 : Int} {M : bM} (h : b_wp (F_X4_know_s106 v2 M) (Sum.elim (A_X4_know_106 l E Q ) (X_X4_know_106 l E Q ))) : V l E xX4_know (0, 0) 106 [(0, bR 6), (2, bI v2)] [] M (b_pV Q) := by
  unfold F_X4_know_s106 at h
  refine v_iload_n (f := 2) 1 rfl dX4_know_106 ?_
  refine v_aload_n (f := 0) 0 rfl dX4_know_107 ?_
  refine v_getI (kf := 0) (kz := 0) rfl kd_6 rfl ⟨by decide, by decide⟩ rfl wf_4_43 dX4_know_108 ?_
  refine v_icmp_ge (tgt := 225) dX4_know_111 (by decide) (fun c16 => ?_) (fun c16 => ?_)
  · replace h := b_wp_t c16 h
    refine v_sub (ls2 := []) [] rfl ?_
    exact h
  · replace h := b_wp_f c16 h
    refine v_aload_n (f := 0) 0 rfl dX4_know_114 ?_
    refine v_iload_n (f := 2) 1 rfl dX4_know_115 ?_
    refine v_cVV (nA := 1) (As := [bI _]) (ix := 83) (cf_X4_findWitnesses (b_wp_b h)) rfl kd_6 rfl rfl wc_X4_findWitnesses wm_4_83 wi_X4_findWitnesses ws_X4_findWitnesses wn_4 ⟨by decide, by decide, by decide⟩ rfl ⟨by decide, by decide⟩ ⟨by decide, by decide⟩ (Nat.le_of_ble_eq_true rfl) dX4_know_116 (fun M17 h => ?_)
    obtain ⟨⟨g18, g19, g20⟩, h⟩ := b_wp_g h
    refine v_aload_n (f := 0) 0 rfl dX4_know_119 ?_
    refine v_getR (kf := 8) (kz := 8) rfl kd_6 rfl ⟨by decide, by decide⟩ rfl wf_4_11 dX4_know_120 ?_
    refine v_iload_n (f := 2) 1 rfl dX4_know_123 ?_
    refine v_bipush ⟨by decide, by decide⟩ (by decide) dX4_know_124 ?_
    refine v_imulN g18 dX4_know_126 ?_
    refine v_bipush ⟨by decide, by decide⟩ (by decide) dX4_know_127 ?_
    refine v_iaddN g19 dX4_know_129 ?_
    refine v_iconst ⟨by decide, by decide⟩ dX4_know_130 ?_
    refine v_iastore kd_126 g20 (by decide) dX4_know_131 ?_
    replace h := b_wp_l h
    refine v_iconst ⟨by decide, by decide⟩ dX4_know_132 ?_
    refine v_istore_n (g := 3) (i := 3) (ls' := [(3, bI _), (0, bR _), (2, bI _)]) rfl (by decide) dX4_know_133 rfl ?_
    refine v_sub (ls2 := [(0, bR _), (2, bI _), (3, bI _)]) [1, 2, 0] rfl ?_
    refine l_X4_know_134 (b_wp_m (fun t h => ?_) (b_wp_b h))
    show V l E xX4_know (0, 0) 154 [(0, bR 6), (2, bI _)] [] _ (b_pV Q)
    exact t_X4_know_b154 h
theorem l_X4_know_106 {l : Launch} {E : bE} {Q : bM → Prop} {s : Int × bM} (h : b_wp (b_loop (fun t => F_X4_know_s106 t.1 t.2) s) (X_X4_know_106 l E Q )) : A_X4_know_106 l E Q  s := b_loop_wp (fun t h => t_X4_know_s106 h) s h
noncomputable def F_X4_know_b225 (M : bM) : Option (bM) :=
  some M
theorem t_X4_know_b225 {l : Launch} {E : bE} {Q : bM → Prop} {M : bM} (h : b_wp (F_X4_know_b225 M) (Q)) : V l E xX4_know (0, 0) 225 [] [] M (b_pV Q) := by
  unfold F_X4_know_b225 at h
  refine v_return rfl dX4_know_225 ⟨by decide, by decide⟩ ?_
  exact ⟨rfl, h⟩
noncomputable def F_X4_know_b104 (M : bM) : Option (bM) :=
  b_bind (b_loop (fun t => F_X4_know_s106 t.1 t.2) (0, M)) (fun t => F_X4_know_b225 t)
theorem t_X4_know_b104 {l : Launch} {E : bE} {Q : bM → Prop} {M : bM} (h : b_wp (F_X4_know_b104 M) (Q)) : V l E xX4_know (0, 0) 104 [(0, bR 6)] [] M (b_pV Q) := by
  unfold F_X4_know_b104 at h
  refine v_iconst ⟨by decide, by decide⟩ dX4_know_104 ?_
  refine v_istore_n (g := 2) (i := 2) (ls' := [(2, bI _), (0, bR _)]) rfl (by decide) dX4_know_105 rfl ?_
  refine v_sub (ls2 := [(0, bR _), (2, bI _)]) [1, 0] rfl ?_
  refine l_X4_know_106 (b_wp_m (fun t h => ?_) (b_wp_b h))
  show V l E xX4_know (0, 0) 225 [] [] _ (b_pV Q)
  exact t_X4_know_b225 h
noncomputable def F_X4_know_b24 (v1 : Int) (M : bM) : Option (bM) :=
  b_let (b_up M 6 5 1) (fun M3 => b_let (b_up M3 6 6 v1) (fun M4 => b_bind (F_X1_numberInForce v1 M4) (fun x5 => b_let (b_up M4 6 7 x5) (fun M6 => b_bind (b_loop (fun t => F_X4_know_s48 t.1 t.2) (0, M6)) (fun t => F_X4_know_b104 t)))))
theorem t_X4_know_b24 {l : Launch} {E : bE} {Q : bM → Prop} {v1 : Int} {M : bM} (h : b_wp (F_X4_know_b24 v1 M) (Q)) : V l E xX4_know (0, 0) 24 [(0, bR 6), (1, bI v1)] [] M (b_pV Q) := by
  unfold F_X4_know_b24 at h
  refine v_aload_n (f := 0) 0 rfl dX4_know_24 ?_
  refine v_iconst ⟨by decide, by decide⟩ dX4_know_25 ?_
  refine v_putZ (kf := 5) (kz := 5) rfl kd_6 rfl ⟨by decide, by decide⟩ rfl (Or.inr rfl) wf_4_47 rfl rfl dX4_know_26 ?_
  replace h := b_wp_l h
  refine v_aload_n (f := 0) 0 rfl dX4_know_29 ?_
  refine v_iload_n (f := 1) 1 rfl dX4_know_30 ?_
  refine v_putI (kf := 6) (kz := 6) rfl kd_6 rfl ⟨by decide, by decide⟩ rfl wf_4_66 rfl rfl dX4_know_31 ?_
  replace h := b_wp_l h
  refine v_aload_n (f := 0) 0 rfl dX4_know_34 ?_
  refine v_aload_n (f := 0) 0 rfl dX4_know_35 ?_
  refine v_getR (kf := 4) (kz := 4) rfl kd_6 rfl ⟨by decide, by decide⟩ rfl wf_4_39 dX4_know_36 ?_
  refine v_iload_n (f := 1) 1 rfl dX4_know_39 ?_
  refine v_cVIp (nA := 1) (As := [bI _]) (ix := 69) (cf_X1_numberInForce (b_wp_b h)) rfl kd_4 rfl rfl wc_X1_numberInForce wm_4_69 wi_X1_numberInForce ws_X1_numberInForce wn_1 ⟨by decide, by decide, by decide⟩ rfl ⟨by decide, by decide⟩ ⟨by decide, by decide⟩ (Nat.le_of_ble_eq_true rfl) dX4_know_40 (fun x5 h => ?_)
  refine v_putI (kf := 7) (kz := 7) rfl kd_6 rfl ⟨by decide, by decide⟩ rfl wf_4_51 rfl rfl dX4_know_43 ?_
  replace h := b_wp_l h
  refine v_iconst ⟨by decide, by decide⟩ dX4_know_46 ?_
  refine v_istore_n (g := 2) (i := 2) (ls' := [(2, bI _), (0, bR _), (1, bI _)]) rfl (by decide) dX4_know_47 rfl ?_
  refine v_sub (ls2 := [(0, bR _), (2, bI _)]) [1, 0] rfl ?_
  refine l_X4_know_48 (b_wp_m (fun t h => ?_) (b_wp_b h))
  show V l E xX4_know (0, 0) 104 [(0, bR 6)] [] _ (b_pV Q)
  exact t_X4_know_b104 h
noncomputable def F_X4_know (v1 : Int) (M : bM) : Option (bM) :=
  b_bind (F_X8_know v1 M) (fun M1 => if (M1 6 5) = 0 then (F_X4_know_b24 v1 M1) else (if v1 = (M1 6 6) then (some M1) else (F_X4_know_b24 v1 M1)))
theorem t_X4_know {l : Launch} {E : bE} {Q : bM → Prop} {v1 : Int} {M : bM} (h : b_wp (F_X4_know v1 M) (Q)) : V l E xX4_know (0, 0) 0 [(0, bR 6), (1, bI v1)] [] M (b_pV Q) := by
  unfold F_X4_know at h
  refine v_aload_n (f := 0) 0 rfl dX4_know_0 ?_
  refine v_getR (kf := 1) (kz := 1) rfl kd_6 rfl ⟨by decide, by decide⟩ rfl wf_4_27 dX4_know_1 ?_
  refine v_iload_n (f := 1) 1 rfl dX4_know_4 ?_
  refine v_cVV (nA := 1) (As := [bI _]) (ix := 60) (cf_X8_know (b_wp_b h)) rfl kd_2 rfl rfl wc_X8_know wm_4_60 wi_X8_know ws_X8_know wn_8 ⟨by decide, by decide, by decide⟩ rfl ⟨by decide, by decide⟩ ⟨by decide, by decide⟩ (Nat.le_of_ble_eq_true rfl) dX4_know_5 (fun M1 h => ?_)
  refine v_aload_n (f := 0) 0 rfl dX4_know_8 ?_
  refine v_getI (kf := 5) (kz := 5) rfl kd_6 rfl ⟨by decide, by decide⟩ rfl wf_4_47 dX4_know_9 ?_
  refine v_if_eq (tgt := 24) dX4_know_12 (by decide) (fun c2 => ?_) (fun c2 => ?_)
  · replace h := b_wp_t c2 h
    exact t_X4_know_b24 h
  · replace h := b_wp_f c2 h
    refine v_iload_n (f := 1) 1 rfl dX4_know_15 ?_
    refine v_aload_n (f := 0) 0 rfl dX4_know_16 ?_
    refine v_getI (kf := 6) (kz := 6) rfl kd_6 rfl ⟨by decide, by decide⟩ rfl wf_4_66 dX4_know_17 ?_
    refine v_icmp_ne (tgt := 24) dX4_know_20 (by decide) (fun c40 => ?_) (fun c40 => ?_)
    · replace h := b_wp_f c40 h
      exact t_X4_know_b24 h
    · replace h := b_wp_t c40 h
      refine v_return rfl dX4_know_23 ⟨by decide, by decide⟩ ?_
      exact ⟨rfl, h⟩
theorem cf_X4_know {l : Launch} {E : bE} {M : bM} {v1 : Int} {Q : bM → Prop} (h : b_wp (F_X4_know v1 M) Q) : b_C l E xX4_know yX4_know [bR 6, bI v1] M (b_pV Q) := b_met (by decide) ⟨rfl, rfl⟩ (Nat.le_of_ble_eq_true rfl) (fun _ _ => t_X4_know h)
abbrev xX4_fact : bX := ("BurntHall$Evidence", prog_6_method_3_code, 3, (Option.some Jvm.ClassFile.FieldType.int), b_rm 1 0 0, 0, "fact")
abbrev yX4_fact : MethodName := ⟨"BurntHall$Evidence", "fact", "(II)I"⟩
theorem dX4_fact_0 : decode prog_6_method_3_code 0 = .ok (.iload_n 1, 1) := by decide +kernel
theorem dX4_fact_1 : decode prog_6_method_3_code 1 = .ok (.ifCond .lt 35, 3) := by decide +kernel
theorem dX4_fact_4 : decode prog_6_method_3_code 4 = .ok (.iload_n 1, 1) := by decide +kernel
theorem dX4_fact_5 : decode prog_6_method_3_code 5 = .ok (.aload_n 0, 1) := by decide +kernel
theorem dX4_fact_6 : decode prog_6_method_3_code 6 = .ok (.getfield 43, 3) := by decide +kernel
theorem dX4_fact_9 : decode prog_6_method_3_code 9 = .ok (.if_icmp .ge 27, 3) := by decide +kernel
theorem dX4_fact_12 : decode prog_6_method_3_code 12 = .ok (.iload_n 2, 1) := by decide +kernel
theorem dX4_fact_13 : decode prog_6_method_3_code 13 = .ok (.ifCond .lt 23, 3) := by decide +kernel
theorem dX4_fact_16 : decode prog_6_method_3_code 16 = .ok (.iload_n 2, 1) := by decide +kernel
theorem dX4_fact_17 : decode prog_6_method_3_code 17 = .ok (.bipush 10, 2) := by decide +kernel
theorem dX4_fact_19 : decode prog_6_method_3_code 19 = .ok (.if_icmp .ge 17, 3) := by decide +kernel
theorem dX4_fact_22 : decode prog_6_method_3_code 22 = .ok (.aload_n 0, 1) := by decide +kernel
theorem dX4_fact_23 : decode prog_6_method_3_code 23 = .ok (.getfield 11, 3) := by decide +kernel
theorem dX4_fact_26 : decode prog_6_method_3_code 26 = .ok (.iload_n 1, 1) := by decide +kernel
theorem dX4_fact_27 : decode prog_6_method_3_code 27 = .ok (.bipush 10, 2) := by decide +kernel
theorem dX4_fact_29 : decode prog_6_method_3_code 29 = .ok (.imul, 1) := by decide +kernel
theorem dX4_fact_30 : decode prog_6_method_3_code 30 = .ok (.iload_n 2, 1) := by decide +kernel
theorem dX4_fact_31 : decode prog_6_method_3_code 31 = .ok (.iadd, 1) := by decide +kernel
theorem dX4_fact_32 : decode prog_6_method_3_code 32 = .ok (.iaload, 1) := by decide +kernel
theorem dX4_fact_33 : decode prog_6_method_3_code 33 = .ok (.goto 4, 3) := by decide +kernel
theorem dX4_fact_36 : decode prog_6_method_3_code 36 = .ok (.iconst (-1), 1) := by decide +kernel
theorem dX4_fact_37 : decode prog_6_method_3_code 37 = .ok (.ireturn, 1) := by decide +kernel
noncomputable def F_X4_fact (v1 : Int) (v2 : Int) (M : bM) : Option (Int) :=
  if v1 < 0 then (some (-1)) else (if (M 6 0) ≤ v1 then (some (-1)) else (if v2 < 0 then (some (-1)) else (if 10 ≤ v2 then (some (-1)) else (b_g ((b_i32 (v1 * 10)) ∧ (b_i32 ((v1 * 10) + v2)) ∧ (0 ≤ ((v1 * 10) + v2) ∧ ((v1 * 10) + v2) < 300)) (some (M 126 ((v1 * 10) + v2)))))))
theorem t_X4_fact {l : Launch} {E : bE} {Q : Int → Prop} {v1 : Int} {v2 : Int} {M : bM} (h : b_wp (F_X4_fact v1 v2 M) (Q)) : V l E xX4_fact (0, 0) 0 [(0, bR 6), (1, bI v1), (2, bI v2)] [] M (b_pIp M Q) := by
  unfold F_X4_fact at h
  refine v_iload_n (f := 1) 1 rfl dX4_fact_0 ?_
  refine v_if_lt (tgt := 36) dX4_fact_1 (by decide) (fun c1 => ?_) (fun c1 => ?_)
  · replace h := b_wp_t c1 h
    refine v_iconst ⟨by decide, by decide⟩ dX4_fact_36 ?_
    refine v_ireturn rfl dX4_fact_37 ⟨by decide, by decide⟩ ?_
    exact ⟨_, rfl, rfl, h⟩
  · replace h := b_wp_f c1 h
    refine v_iload_n (f := 1) 1 rfl dX4_fact_4 ?_
    refine v_aload_n (f := 0) 0 rfl dX4_fact_5 ?_
    refine v_getI (kf := 0) (kz := 0) rfl kd_6 rfl ⟨by decide, by decide⟩ rfl wf_4_43 dX4_fact_6 ?_
    refine v_icmp_ge (tgt := 36) dX4_fact_9 (by decide) (fun c2 => ?_) (fun c2 => ?_)
    · replace h := b_wp_t c2 h
      refine v_iconst ⟨by decide, by decide⟩ dX4_fact_36 ?_
      refine v_ireturn rfl dX4_fact_37 ⟨by decide, by decide⟩ ?_
      exact ⟨_, rfl, rfl, h⟩
    · replace h := b_wp_f c2 h
      refine v_iload_n (f := 2) 2 rfl dX4_fact_12 ?_
      refine v_if_lt (tgt := 36) dX4_fact_13 (by decide) (fun c3 => ?_) (fun c3 => ?_)
      · replace h := b_wp_t c3 h
        refine v_iconst ⟨by decide, by decide⟩ dX4_fact_36 ?_
        refine v_ireturn rfl dX4_fact_37 ⟨by decide, by decide⟩ ?_
        exact ⟨_, rfl, rfl, h⟩
      · replace h := b_wp_f c3 h
        refine v_iload_n (f := 2) 2 rfl dX4_fact_16 ?_
        refine v_bipush ⟨by decide, by decide⟩ (by decide) dX4_fact_17 ?_
        refine v_icmp_ge (tgt := 36) dX4_fact_19 (by decide) (fun c4 => ?_) (fun c4 => ?_)
        · replace h := b_wp_t c4 h
          refine v_iconst ⟨by decide, by decide⟩ dX4_fact_36 ?_
          refine v_ireturn rfl dX4_fact_37 ⟨by decide, by decide⟩ ?_
          exact ⟨_, rfl, rfl, h⟩
        · replace h := b_wp_f c4 h
          obtain ⟨⟨g5, g6, g7⟩, h⟩ := b_wp_g h
          refine v_aload_n (f := 0) 0 rfl dX4_fact_22 ?_
          refine v_getR (kf := 8) (kz := 8) rfl kd_6 rfl ⟨by decide, by decide⟩ rfl wf_4_11 dX4_fact_23 ?_
          refine v_iload_n (f := 1) 1 rfl dX4_fact_26 ?_
          refine v_bipush ⟨by decide, by decide⟩ (by decide) dX4_fact_27 ?_
          refine v_imulN g5 dX4_fact_29 ?_
          refine v_iload_n (f := 2) 2 rfl dX4_fact_30 ?_
          refine v_iaddN g6 dX4_fact_31 ?_
          refine v_iaload kd_126 g7 (by decide) dX4_fact_32 ?_
          refine v_goto (tgt := 37) dX4_fact_33 (by decide) ?_
          refine v_ireturn rfl dX4_fact_37 ⟨by decide, by decide⟩ ?_
          exact ⟨_, rfl, rfl, h⟩
theorem cf_X4_fact {l : Launch} {E : bE} {M : bM} {v1 : Int} {v2 : Int} {Q : Int → Prop} (h : b_wp (F_X4_fact v1 v2 M) Q) : b_C l E xX4_fact yX4_fact [bR 6, bI v1, bI v2] M (b_pIp M Q) := b_met (by decide) ⟨rfl, rfl⟩ (Nat.le_of_ble_eq_true rfl) (fun _ _ => t_X4_fact h)
abbrev xX11_shown : bX := ("BurntHall", prog_1_method_34_code, 4, (Option.some Jvm.ClassFile.FieldType.int), b_rm 7 0 0, 0, "shown")
abbrev yX11_shown : MethodName := ⟨"BurntHall", "shown", "(III)I"⟩
theorem dX11_shown_0 : decode prog_1_method_34_code 0 = .ok (.iload_n 1, 1) := by decide +kernel
theorem dX11_shown_1 : decode prog_1_method_34_code 1 = .ok (.ifCond .lt 31, 3) := by decide +kernel
theorem dX11_shown_4 : decode prog_1_method_34_code 4 = .ok (.iload_n 1, 1) := by decide +kernel
theorem dX11_shown_5 : decode prog_1_method_34_code 5 = .ok (.aload_n 0, 1) := by decide +kernel
theorem dX11_shown_6 : decode prog_1_method_34_code 6 = .ok (.getfield 51, 3) := by decide +kernel
theorem dX11_shown_9 : decode prog_1_method_34_code 9 = .ok (.getfield 243, 3) := by decide +kernel
theorem dX11_shown_12 : decode prog_1_method_34_code 12 = .ok (.if_icmp .ge 20, 3) := by decide +kernel
theorem dX11_shown_15 : decode prog_1_method_34_code 15 = .ok (.iload_n 2, 1) := by decide +kernel
theorem dX11_shown_16 : decode prog_1_method_34_code 16 = .ok (.invokestatic 102, 3) := by decide +kernel
theorem dX11_shown_19 : decode prog_1_method_34_code 19 = .ok (.ifCond .eq 13, 3) := by decide +kernel
theorem dX11_shown_22 : decode prog_1_method_34_code 22 = .ok (.iload_n 3, 1) := by decide +kernel
theorem dX11_shown_23 : decode prog_1_method_34_code 23 = .ok (.ifCond .lt 9, 3) := by decide +kernel
theorem dX11_shown_26 : decode prog_1_method_34_code 26 = .ok (.iload_n 3, 1) := by decide +kernel
theorem dX11_shown_27 : decode prog_1_method_34_code 27 = .ok (.bipush 10, 2) := by decide +kernel
theorem dX11_shown_29 : decode prog_1_method_34_code 29 = .ok (.if_icmp .lt 6, 3) := by decide +kernel
theorem dX11_shown_32 : decode prog_1_method_34_code 32 = .ok (.bipush (-9), 2) := by decide +kernel
theorem dX11_shown_34 : decode prog_1_method_34_code 34 = .ok (.ireturn, 1) := by decide +kernel
theorem dX11_shown_35 : decode prog_1_method_34_code 35 = .ok (.aload_n 0, 1) := by decide +kernel
theorem dX11_shown_36 : decode prog_1_method_34_code 36 = .ok (.getfield 51, 3) := by decide +kernel
theorem dX11_shown_39 : decode prog_1_method_34_code 39 = .ok (.iload_n 2, 1) := by decide +kernel
theorem dX11_shown_40 : decode prog_1_method_34_code 40 = .ok (.invokevirtual 284, 3) := by decide +kernel
theorem dX11_shown_43 : decode prog_1_method_34_code 43 = .ok (.aload_n 0, 1) := by decide +kernel
theorem dX11_shown_44 : decode prog_1_method_34_code 44 = .ok (.getfield 51, 3) := by decide +kernel
theorem dX11_shown_47 : decode prog_1_method_34_code 47 = .ok (.iload_n 1, 1) := by decide +kernel
theorem dX11_shown_48 : decode prog_1_method_34_code 48 = .ok (.iload_n 3, 1) := by decide +kernel
theorem dX11_shown_49 : decode prog_1_method_34_code 49 = .ok (.invokevirtual 285, 3) := by decide +kernel
theorem dX11_shown_52 : decode prog_1_method_34_code 52 = .ok (.ireturn, 1) := by decide +kernel
noncomputable def F_X11_shown (v1 : Int) (v2 : Int) (v3 : Int) (M : bM) : Option (Int × bM) :=
  if v1 < 0 then (some ((-9), M)) else (if (M 6 0) ≤ v1 then (some ((-9), M)) else (b_bind (F_X11_isDay v2 M) (fun x3 => if x3 = 0 then (some ((-9), M)) else (if v3 < 0 then (some ((-9), M)) else (if v3 < 10 then (b_bind (F_X4_know v2 M) (fun M7 => b_bind (F_X4_fact v1 v3 M7) (fun x8 => some (x8, M7)))) else (some ((-9), M)))))))
theorem t_X11_shown {l : Launch} {E : bE} {Q : (Int × bM) → Prop} {v1 : Int} {v2 : Int} {v3 : Int} {M : bM} (h : b_wp (F_X11_shown v1 v2 v3 M) (Q)) : V l E xX11_shown (0, 0) 0 [(0, bR 0), (1, bI v1), (2, bI v2), (3, bI v3)] [] M (b_pI Q) := by
  unfold F_X11_shown at h
  refine v_iload_n (f := 1) 1 rfl dX11_shown_0 ?_
  refine v_if_lt (tgt := 32) dX11_shown_1 (by decide) (fun c1 => ?_) (fun c1 => ?_)
  · replace h := b_wp_t c1 h
    refine v_bipush ⟨by decide, by decide⟩ (by decide) dX11_shown_32 ?_
    refine v_ireturn rfl dX11_shown_34 ⟨by decide, by decide⟩ ?_
    exact ⟨_, rfl, h⟩
  · replace h := b_wp_f c1 h
    refine v_iload_n (f := 1) 1 rfl dX11_shown_4 ?_
    refine v_aload_n (f := 0) 0 rfl dX11_shown_5 ?_
    refine v_getR (kf := 5) (kz := 5) rfl kd_0 rfl ⟨by decide, by decide⟩ rfl wf_11_51 dX11_shown_6 ?_
    refine v_getI (kf := 0) (kz := 0) rfl kd_6 rfl ⟨by decide, by decide⟩ rfl wf_11_243 dX11_shown_9 ?_
    refine v_icmp_ge (tgt := 32) dX11_shown_12 (by decide) (fun c2 => ?_) (fun c2 => ?_)
    · replace h := b_wp_t c2 h
      refine v_bipush ⟨by decide, by decide⟩ (by decide) dX11_shown_32 ?_
      refine v_ireturn rfl dX11_shown_34 ⟨by decide, by decide⟩ ?_
      exact ⟨_, rfl, h⟩
    · replace h := b_wp_f c2 h
      refine v_iload_n (f := 2) 2 rfl dX11_shown_15 ?_
      refine v_cSIp (nA := 1) (As := [bI _]) (ix := 102) (cf_X11_isDay (b_wp_b h)) rfl wc_X11_isDay wm_11_102 wi_X11_isDay wn_11 ⟨by decide, by decide, by decide⟩ rfl ⟨by decide, by decide⟩ ⟨by decide, by decide⟩ (Nat.le_of_ble_eq_true rfl) dX11_shown_16 (fun x3 h => ?_)
      refine v_if_eq (tgt := 32) dX11_shown_19 (by decide) (fun c4 => ?_) (fun c4 => ?_)
      · replace h := b_wp_t c4 h
        refine v_bipush ⟨by decide, by decide⟩ (by decide) dX11_shown_32 ?_
        refine v_ireturn rfl dX11_shown_34 ⟨by decide, by decide⟩ ?_
        exact ⟨_, rfl, h⟩
      · replace h := b_wp_f c4 h
        refine v_iload_n (f := 3) 3 rfl dX11_shown_22 ?_
        refine v_if_lt (tgt := 32) dX11_shown_23 (by decide) (fun c5 => ?_) (fun c5 => ?_)
        · replace h := b_wp_t c5 h
          refine v_bipush ⟨by decide, by decide⟩ (by decide) dX11_shown_32 ?_
          refine v_ireturn rfl dX11_shown_34 ⟨by decide, by decide⟩ ?_
          exact ⟨_, rfl, h⟩
        · replace h := b_wp_f c5 h
          refine v_iload_n (f := 3) 3 rfl dX11_shown_26 ?_
          refine v_bipush ⟨by decide, by decide⟩ (by decide) dX11_shown_27 ?_
          refine v_icmp_lt (tgt := 35) dX11_shown_29 (by decide) (fun c6 => ?_) (fun c6 => ?_)
          · replace h := b_wp_t c6 h
            refine v_aload_n (f := 0) 0 rfl dX11_shown_35 ?_
            refine v_getR (kf := 5) (kz := 5) rfl kd_0 rfl ⟨by decide, by decide⟩ rfl wf_11_51 dX11_shown_36 ?_
            refine v_iload_n (f := 2) 2 rfl dX11_shown_39 ?_
            refine v_cVV (nA := 1) (As := [bI _]) (ix := 284) (cf_X4_know (b_wp_b h)) rfl kd_6 rfl rfl wc_X4_know wm_11_284 wi_X4_know ws_X4_know wn_4 ⟨by decide, by decide, by decide⟩ rfl ⟨by decide, by decide⟩ ⟨by decide, by decide⟩ (Nat.le_of_ble_eq_true rfl) dX11_shown_40 (fun M7 h => ?_)
            refine v_aload_n (f := 0) 0 rfl dX11_shown_43 ?_
            refine v_getR (kf := 5) (kz := 5) rfl kd_0 rfl ⟨by decide, by decide⟩ rfl wf_11_51 dX11_shown_44 ?_
            refine v_iload_n (f := 1) 1 rfl dX11_shown_47 ?_
            refine v_iload_n (f := 3) 3 rfl dX11_shown_48 ?_
            refine v_cVIp (nA := 2) (As := [bI _, bI _]) (ix := 285) (cf_X4_fact (b_wp_b h)) rfl kd_6 rfl rfl wc_X4_fact wm_11_285 wi_X4_fact ws_X4_fact wn_4 ⟨by decide, by decide, by decide⟩ rfl ⟨by decide, by decide⟩ ⟨by decide, by decide⟩ (Nat.le_of_ble_eq_true rfl) dX11_shown_49 (fun x8 h => ?_)
            refine v_ireturn rfl dX11_shown_52 ⟨by decide, by decide⟩ ?_
            exact ⟨_, rfl, h⟩
          · replace h := b_wp_f c6 h
            refine v_bipush ⟨by decide, by decide⟩ (by decide) dX11_shown_32 ?_
            refine v_ireturn rfl dX11_shown_34 ⟨by decide, by decide⟩ ?_
            exact ⟨_, rfl, h⟩
theorem cf_X11_shown {l : Launch} {E : bE} {M : bM} {v1 : Int} {v2 : Int} {v3 : Int} {Q : (Int × bM) → Prop} (h : b_wp (F_X11_shown v1 v2 v3 M) Q) : b_C l E xX11_shown yX11_shown [bR 0, bI v1, bI v2, bI v3] M (b_pI Q) := b_met (by decide) ⟨rfl, rfl⟩ (Nat.le_of_ble_eq_true rfl) (fun _ _ => t_X11_shown h)
abbrev xX11_root : bX := ("BurntHall", prog_1_method_35_code, 4, (Option.some Jvm.ClassFile.FieldType.int), b_rm 2 0 0, 0, "root")
abbrev yX11_root : MethodName := ⟨"BurntHall", "root", "(III)I"⟩
theorem dX11_root_0 : decode prog_1_method_35_code 0 = .ok (.aload_n 0, 1) := by decide +kernel
theorem dX11_root_1 : decode prog_1_method_35_code 1 = .ok (.getfield 26, 3) := by decide +kernel
theorem dX11_root_4 : decode prog_1_method_35_code 4 = .ok (.iload_n 1, 1) := by decide +kernel
theorem dX11_root_5 : decode prog_1_method_35_code 5 = .ok (.invokevirtual 146, 3) := by decide +kernel
theorem dX11_root_8 : decode prog_1_method_35_code 8 = .ok (.ifCond .eq 21, 3) := by decide +kernel
theorem dX11_root_11 : decode prog_1_method_35_code 11 = .ok (.aload_n 0, 1) := by decide +kernel
theorem dX11_root_12 : decode prog_1_method_35_code 12 = .ok (.getfield 19, 3) := by decide +kernel
theorem dX11_root_15 : decode prog_1_method_35_code 15 = .ok (.iload_n 2, 1) := by decide +kernel
theorem dX11_root_16 : decode prog_1_method_35_code 16 = .ok (.invokevirtual 110, 3) := by decide +kernel
theorem dX11_root_19 : decode prog_1_method_35_code 19 = .ok (.ifCond .eq 10, 3) := by decide +kernel
theorem dX11_root_22 : decode prog_1_method_35_code 22 = .ok (.iload_n 3, 1) := by decide +kernel
theorem dX11_root_23 : decode prog_1_method_35_code 23 = .ok (.invokestatic 102, 3) := by decide +kernel
theorem dX11_root_26 : decode prog_1_method_35_code 26 = .ok (.ifCond .ne 6, 3) := by decide +kernel
theorem dX11_root_29 : decode prog_1_method_35_code 29 = .ok (.bipush (-2), 2) := by decide +kernel
theorem dX11_root_31 : decode prog_1_method_35_code 31 = .ok (.ireturn, 1) := by decide +kernel
theorem dX11_root_32 : decode prog_1_method_35_code 32 = .ok (.aload_n 0, 1) := by decide +kernel
theorem dX11_root_33 : decode prog_1_method_35_code 33 = .ok (.getfield 26, 3) := by decide +kernel
theorem dX11_root_36 : decode prog_1_method_35_code 36 = .ok (.getfield 174, 3) := by decide +kernel
theorem dX11_root_39 : decode prog_1_method_35_code 39 = .ok (.iload_n 1, 1) := by decide +kernel
theorem dX11_root_40 : decode prog_1_method_35_code 40 = .ok (.laload, 1) := by decide +kernel
theorem dX11_root_41 : decode prog_1_method_35_code 41 = .ok (.lconst 1, 1) := by decide +kernel
theorem dX11_root_42 : decode prog_1_method_35_code 42 = .ok (.iload_n 1, 1) := by decide +kernel
theorem dX11_root_43 : decode prog_1_method_35_code 43 = .ok (.lshl, 1) := by decide +kernel
theorem dX11_root_44 : decode prog_1_method_35_code 44 = .ok (.lcmp, 1) := by decide +kernel
theorem dX11_root_45 : decode prog_1_method_35_code 45 = .ok (.ifCond .ne 16, 3) := by decide +kernel
theorem dX11_root_48 : decode prog_1_method_35_code 48 = .ok (.aload_n 0, 1) := by decide +kernel
theorem dX11_root_49 : decode prog_1_method_35_code 49 = .ok (.getfield 26, 3) := by decide +kernel
theorem dX11_root_52 : decode prog_1_method_35_code 52 = .ok (.getfield 288, 3) := by decide +kernel
theorem dX11_root_55 : decode prog_1_method_35_code 55 = .ok (.iload_n 1, 1) := by decide +kernel
theorem dX11_root_56 : decode prog_1_method_35_code 56 = .ok (.iaload, 1) := by decide +kernel
theorem dX11_root_57 : decode prog_1_method_35_code 57 = .ok (.iconst (-1), 1) := by decide +kernel
theorem dX11_root_58 : decode prog_1_method_35_code 58 = .ok (.if_icmp .eq 6, 3) := by decide +kernel
theorem dX11_root_61 : decode prog_1_method_35_code 61 = .ok (.bipush (-4), 2) := by decide +kernel
theorem dX11_root_63 : decode prog_1_method_35_code 63 = .ok (.ireturn, 1) := by decide +kernel
theorem dX11_root_64 : decode prog_1_method_35_code 64 = .ok (.aload_n 0, 1) := by decide +kernel
theorem dX11_root_65 : decode prog_1_method_35_code 65 = .ok (.getfield 26, 3) := by decide +kernel
theorem dX11_root_68 : decode prog_1_method_35_code 68 = .ok (.getfield 288, 3) := by decide +kernel
theorem dX11_root_71 : decode prog_1_method_35_code 71 = .ok (.iload_n 1, 1) := by decide +kernel
theorem dX11_root_72 : decode prog_1_method_35_code 72 = .ok (.iload_n 2, 1) := by decide +kernel
theorem dX11_root_73 : decode prog_1_method_35_code 73 = .ok (.iastore, 1) := by decide +kernel
theorem dX11_root_74 : decode prog_1_method_35_code 74 = .ok (.aload_n 0, 1) := by decide +kernel
theorem dX11_root_75 : decode prog_1_method_35_code 75 = .ok (.getfield 26, 3) := by decide +kernel
theorem dX11_root_78 : decode prog_1_method_35_code 78 = .ok (.getfield 291, 3) := by decide +kernel
theorem dX11_root_81 : decode prog_1_method_35_code 81 = .ok (.iload_n 1, 1) := by decide +kernel
theorem dX11_root_82 : decode prog_1_method_35_code 82 = .ok (.iload_n 3, 1) := by decide +kernel
theorem dX11_root_83 : decode prog_1_method_35_code 83 = .ok (.iastore, 1) := by decide +kernel
theorem dX11_root_84 : decode prog_1_method_35_code 84 = .ok (.iconst 1, 1) := by decide +kernel
theorem dX11_root_85 : decode prog_1_method_35_code 85 = .ok (.ireturn, 1) := by decide +kernel
noncomputable def F_X11_root (v1 : Int) (v2 : Int) (v3 : Int) (M : bM) : Option (Int × bM) :=
  b_bind (F_X5_has v1 M) (fun x1 => if x1 = 0 then (some ((-2), M)) else (b_bind (F_X8_has v2 M) (fun x3 => if x3 = 0 then (some ((-2), M)) else (b_bind (F_X11_isDay v3 M) (fun x5 => if x5 = 0 then (some ((-2), M)) else (b_g (0 ≤ v1 ∧ v1 < 60) (if (j_cmp (M 91 v1) (j_shl 1 v1)) = 0 then (b_g (0 ≤ v1 ∧ v1 < 60) (if (M 92 v1) = (-1) then (b_g (0 ≤ v1 ∧ v1 < 60) (b_let (b_up M 92 v1 v2) (fun M12 => b_g (0 ≤ v1 ∧ v1 < 60) (b_let (b_up M12 93 v1 v3) (fun M14 => some (1, M14)))))) else (some ((-4), M)))) else (some ((-4), M)))))))))
theorem t_X11_root {l : Launch} {E : bE} {Q : (Int × bM) → Prop} {v1 : Int} {v2 : Int} {v3 : Int} {M : bM} (h : b_wp (F_X11_root v1 v2 v3 M) (Q)) : V l E xX11_root (0, 0) 0 [(0, bR 0), (1, bI v1), (2, bI v2), (3, bI v3)] [] M (b_pI Q) := by
  unfold F_X11_root at h
  refine v_aload_n (f := 0) 0 rfl dX11_root_0 ?_
  refine v_getR (kf := 2) (kz := 2) rfl kd_0 rfl ⟨by decide, by decide⟩ rfl wf_11_26 dX11_root_1 ?_
  refine v_iload_n (f := 1) 1 rfl dX11_root_4 ?_
  refine v_cVIp (nA := 1) (As := [bI _]) (ix := 146) (cf_X5_has (b_wp_b h)) rfl kd_3 rfl rfl wc_X5_has wm_11_146 wi_X5_has ws_X5_has wn_5 ⟨by decide, by decide, by decide⟩ rfl ⟨by decide, by decide⟩ ⟨by decide, by decide⟩ (Nat.le_of_ble_eq_true rfl) dX11_root_5 (fun x1 h => ?_)
  refine v_if_eq (tgt := 29) dX11_root_8 (by decide) (fun c2 => ?_) (fun c2 => ?_)
  · replace h := b_wp_t c2 h
    refine v_bipush ⟨by decide, by decide⟩ (by decide) dX11_root_29 ?_
    refine v_ireturn rfl dX11_root_31 ⟨by decide, by decide⟩ ?_
    exact ⟨_, rfl, h⟩
  · replace h := b_wp_f c2 h
    refine v_aload_n (f := 0) 0 rfl dX11_root_11 ?_
    refine v_getR (kf := 1) (kz := 1) rfl kd_0 rfl ⟨by decide, by decide⟩ rfl wf_11_19 dX11_root_12 ?_
    refine v_iload_n (f := 2) 2 rfl dX11_root_15 ?_
    refine v_cVIp (nA := 1) (As := [bI _]) (ix := 110) (cf_X8_has (b_wp_b h)) rfl kd_2 rfl rfl wc_X8_has wm_11_110 wi_X8_has ws_X8_has wn_8 ⟨by decide, by decide, by decide⟩ rfl ⟨by decide, by decide⟩ ⟨by decide, by decide⟩ (Nat.le_of_ble_eq_true rfl) dX11_root_16 (fun x3 h => ?_)
    refine v_if_eq (tgt := 29) dX11_root_19 (by decide) (fun c4 => ?_) (fun c4 => ?_)
    · replace h := b_wp_t c4 h
      refine v_bipush ⟨by decide, by decide⟩ (by decide) dX11_root_29 ?_
      refine v_ireturn rfl dX11_root_31 ⟨by decide, by decide⟩ ?_
      exact ⟨_, rfl, h⟩
    · replace h := b_wp_f c4 h
      refine v_iload_n (f := 3) 3 rfl dX11_root_22 ?_
      refine v_cSIp (nA := 1) (As := [bI _]) (ix := 102) (cf_X11_isDay (b_wp_b h)) rfl wc_X11_isDay wm_11_102 wi_X11_isDay wn_11 ⟨by decide, by decide, by decide⟩ rfl ⟨by decide, by decide⟩ ⟨by decide, by decide⟩ (Nat.le_of_ble_eq_true rfl) dX11_root_23 (fun x5 h => ?_)
      refine v_if_ne (tgt := 32) dX11_root_26 (by decide) (fun c6 => ?_) (fun c6 => ?_)
      · replace h := b_wp_f c6 h
        obtain ⟨g7, h⟩ := b_wp_g h
        refine v_aload_n (f := 0) 0 rfl dX11_root_32 ?_
        refine v_getR (kf := 2) (kz := 2) rfl kd_0 rfl ⟨by decide, by decide⟩ rfl wf_11_26 dX11_root_33 ?_
        refine v_getR (kf := 7) (kz := 7) rfl kd_3 rfl ⟨by decide, by decide⟩ rfl wf_11_174 dX11_root_36 ?_
        refine v_iload_n (f := 1) 1 rfl dX11_root_39 ?_
        refine v_laload kd_91 g7 (by decide) dX11_root_40 ?_
        refine v_lconst1 dX11_root_41 ?_
        refine v_iload_n (f := 1) 1 rfl dX11_root_42 ?_
        refine v_lshl (v := j_shl _ _) rfl dX11_root_43 ?_
        refine v_lcmpN dX11_root_44 ?_
        refine v_if_ne (tgt := 61) dX11_root_45 (by decide) (fun c8 => ?_) (fun c8 => ?_)
        · replace h := b_wp_f c8 h
          refine v_bipush ⟨by decide, by decide⟩ (by decide) dX11_root_61 ?_
          refine v_ireturn rfl dX11_root_63 ⟨by decide, by decide⟩ ?_
          exact ⟨_, rfl, h⟩
        · replace h := b_wp_t c8 h
          obtain ⟨g9, h⟩ := b_wp_g h
          refine v_aload_n (f := 0) 0 rfl dX11_root_48 ?_
          refine v_getR (kf := 2) (kz := 2) rfl kd_0 rfl ⟨by decide, by decide⟩ rfl wf_11_26 dX11_root_49 ?_
          refine v_getR (kf := 8) (kz := 8) rfl kd_3 rfl ⟨by decide, by decide⟩ rfl wf_11_288 dX11_root_52 ?_
          refine v_iload_n (f := 1) 1 rfl dX11_root_55 ?_
          refine v_iaload kd_92 g9 (by decide) dX11_root_56 ?_
          refine v_iconst ⟨by decide, by decide⟩ dX11_root_57 ?_
          refine v_icmp_eq (tgt := 64) dX11_root_58 (by decide) (fun c10 => ?_) (fun c10 => ?_)
          · replace h := b_wp_t c10 h
            obtain ⟨g11, h⟩ := b_wp_g h
            refine v_aload_n (f := 0) 0 rfl dX11_root_64 ?_
            refine v_getR (kf := 2) (kz := 2) rfl kd_0 rfl ⟨by decide, by decide⟩ rfl wf_11_26 dX11_root_65 ?_
            refine v_getR (kf := 8) (kz := 8) rfl kd_3 rfl ⟨by decide, by decide⟩ rfl wf_11_288 dX11_root_68 ?_
            refine v_iload_n (f := 1) 1 rfl dX11_root_71 ?_
            refine v_iload_n (f := 2) 2 rfl dX11_root_72 ?_
            refine v_iastore kd_92 g11 (by decide) dX11_root_73 ?_
            replace h := b_wp_l h
            obtain ⟨g13, h⟩ := b_wp_g h
            refine v_aload_n (f := 0) 0 rfl dX11_root_74 ?_
            refine v_getR (kf := 2) (kz := 2) rfl kd_0 rfl ⟨by decide, by decide⟩ rfl wf_11_26 dX11_root_75 ?_
            refine v_getR (kf := 9) (kz := 9) rfl kd_3 rfl ⟨by decide, by decide⟩ rfl wf_11_291 dX11_root_78 ?_
            refine v_iload_n (f := 1) 1 rfl dX11_root_81 ?_
            refine v_iload_n (f := 3) 3 rfl dX11_root_82 ?_
            refine v_iastore kd_93 g13 (by decide) dX11_root_83 ?_
            replace h := b_wp_l h
            refine v_iconst ⟨by decide, by decide⟩ dX11_root_84 ?_
            refine v_ireturn rfl dX11_root_85 ⟨by decide, by decide⟩ ?_
            exact ⟨_, rfl, h⟩
          · replace h := b_wp_f c10 h
            refine v_bipush ⟨by decide, by decide⟩ (by decide) dX11_root_61 ?_
            refine v_ireturn rfl dX11_root_63 ⟨by decide, by decide⟩ ?_
            exact ⟨_, rfl, h⟩
      · replace h := b_wp_t c6 h
        refine v_bipush ⟨by decide, by decide⟩ (by decide) dX11_root_29 ?_
        refine v_ireturn rfl dX11_root_31 ⟨by decide, by decide⟩ ?_
        exact ⟨_, rfl, h⟩
theorem cf_X11_root {l : Launch} {E : bE} {M : bM} {v1 : Int} {v2 : Int} {v3 : Int} {Q : (Int × bM) → Prop} (h : b_wp (F_X11_root v1 v2 v3 M) Q) : b_C l E xX11_root yX11_root [bR 0, bI v1, bI v2, bI v3] M (b_pI Q) := b_met (by decide) ⟨rfl, rfl⟩ (Nat.le_of_ble_eq_true rfl) (fun _ _ => t_X11_root h)
abbrev xX5_isAmong : bX := ("BurntHall$Lots", prog_7_method_13_code, 4, (Option.some Jvm.ClassFile.FieldType.boolean), b_rm 1 0 0, 0, "isAmong")
abbrev yX5_isAmong : MethodName := ⟨"BurntHall$Lots", "isAmong", "(IJ)Z"⟩
theorem dX5_isAmong_0 : decode prog_7_method_13_code 0 = .ok (.iload_n 1, 1) := by decide +kernel
theorem dX5_isAmong_1 : decode prog_7_method_13_code 1 = .ok (.ifCond .lt 25, 3) := by decide +kernel
theorem dX5_isAmong_4 : decode prog_7_method_13_code 4 = .ok (.iload_n 1, 1) := by decide +kernel
theorem dX5_isAmong_5 : decode prog_7_method_13_code 5 = .ok (.aload_n 0, 1) := by decide +kernel
theorem dX5_isAmong_6 : decode prog_7_method_13_code 6 = .ok (.getfield 79, 3) := by decide +kernel
theorem dX5_isAmong_9 : decode prog_7_method_13_code 9 = .ok (.if_icmp .ge 17, 3) := by decide +kernel
theorem dX5_isAmong_12 : decode prog_7_method_13_code 12 = .ok (.lload_n 2, 1) := by decide +kernel
theorem dX5_isAmong_13 : decode prog_7_method_13_code 13 = .ok (.iload_n 1, 1) := by decide +kernel
theorem dX5_isAmong_14 : decode prog_7_method_13_code 14 = .ok (.lushr, 1) := by decide +kernel
theorem dX5_isAmong_15 : decode prog_7_method_13_code 15 = .ok (.lconst 1, 1) := by decide +kernel
theorem dX5_isAmong_16 : decode prog_7_method_13_code 16 = .ok (.land, 1) := by decide +kernel
theorem dX5_isAmong_17 : decode prog_7_method_13_code 17 = .ok (.lconst 0, 1) := by decide +kernel
theorem dX5_isAmong_18 : decode prog_7_method_13_code 18 = .ok (.lcmp, 1) := by decide +kernel
theorem dX5_isAmong_19 : decode prog_7_method_13_code 19 = .ok (.ifCond .eq 7, 3) := by decide +kernel
theorem dX5_isAmong_22 : decode prog_7_method_13_code 22 = .ok (.iconst 1, 1) := by decide +kernel
theorem dX5_isAmong_23 : decode prog_7_method_13_code 23 = .ok (.goto 4, 3) := by decide +kernel
theorem dX5_isAmong_26 : decode prog_7_method_13_code 26 = .ok (.iconst 0, 1) := by decide +kernel
theorem dX5_isAmong_27 : decode prog_7_method_13_code 27 = .ok (.ireturn, 1) := by decide +kernel
noncomputable def F_X5_isAmong (v1 : Int) (v2 : Int) (M : bM) : Option (Int) :=
  if v1 < 0 then (some 0) else (if (M 3 0) ≤ v1 then (some 0) else (if (j_cmp (j_and (j_ushr v2 v1) 1) 0) = 0 then (some 0) else (some 1)))
theorem t_X5_isAmong {l : Launch} {E : bE} {Q : Int → Prop} {v1 : Int} {v2 : Int} {M : bM} (h : b_wp (F_X5_isAmong v1 v2 M) (Q)) : V l E xX5_isAmong (0, 0) 0 [(0, bR 3), (1, bI v1), (2, bJ v2)] [] M (b_pIp M Q) := by
  unfold F_X5_isAmong at h
  refine v_iload_n (f := 1) 1 rfl dX5_isAmong_0 ?_
  refine v_if_lt (tgt := 26) dX5_isAmong_1 (by decide) (fun c1 => ?_) (fun c1 => ?_)
  · replace h := b_wp_t c1 h
    refine v_iconst ⟨by decide, by decide⟩ dX5_isAmong_26 ?_
    refine v_zreturn rfl (Or.inl rfl) dX5_isAmong_27 ⟨by decide, by decide⟩ ?_
    exact ⟨_, rfl, rfl, h⟩
  · replace h := b_wp_f c1 h
    refine v_iload_n (f := 1) 1 rfl dX5_isAmong_4 ?_
    refine v_aload_n (f := 0) 0 rfl dX5_isAmong_5 ?_
    refine v_getI (kf := 0) (kz := 0) rfl kd_3 rfl ⟨by decide, by decide⟩ rfl wf_5_79 dX5_isAmong_6 ?_
    refine v_icmp_ge (tgt := 26) dX5_isAmong_9 (by decide) (fun c2 => ?_) (fun c2 => ?_)
    · replace h := b_wp_t c2 h
      refine v_iconst ⟨by decide, by decide⟩ dX5_isAmong_26 ?_
      refine v_zreturn rfl (Or.inl rfl) dX5_isAmong_27 ⟨by decide, by decide⟩ ?_
      exact ⟨_, rfl, rfl, h⟩
    · replace h := b_wp_f c2 h
      refine v_lload_n (f := 2) 2 rfl dX5_isAmong_12 ?_
      refine v_iload_n (f := 1) 1 rfl dX5_isAmong_13 ?_
      refine v_lushr (v := j_ushr _ _) rfl dX5_isAmong_14 ?_
      refine v_lconst1 dX5_isAmong_15 ?_
      refine v_land (v := j_and _ _) rfl dX5_isAmong_16 ?_
      refine v_lconst0 dX5_isAmong_17 ?_
      refine v_lcmpN dX5_isAmong_18 ?_
      refine v_if_eq (tgt := 26) dX5_isAmong_19 (by decide) (fun c3 => ?_) (fun c3 => ?_)
      · replace h := b_wp_t c3 h
        refine v_iconst ⟨by decide, by decide⟩ dX5_isAmong_26 ?_
        refine v_zreturn rfl (Or.inl rfl) dX5_isAmong_27 ⟨by decide, by decide⟩ ?_
        exact ⟨_, rfl, rfl, h⟩
      · replace h := b_wp_f c3 h
        refine v_iconst ⟨by decide, by decide⟩ dX5_isAmong_22 ?_
        refine v_goto (tgt := 27) dX5_isAmong_23 (by decide) ?_
        refine v_zreturn rfl (Or.inr rfl) dX5_isAmong_27 ⟨by decide, by decide⟩ ?_
        exact ⟨_, rfl, rfl, h⟩
theorem cf_X5_isAmong {l : Launch} {E : bE} {M : bM} {v1 : Int} {v2 : Int} {Q : Int → Prop} (h : b_wp (F_X5_isAmong v1 v2 M) Q) : b_C l E xX5_isAmong yX5_isAmong [bR 3, bI v1, bJ v2] M (b_pIp M Q) := b_met (by decide) ⟨rfl, rfl⟩ (Nat.le_of_ble_eq_true rfl) (fun _ _ => t_X5_isAmong h)
abbrev xX2_addLink : bX := ("BurntHall$Chains", prog_4_method_7_code, 2, (Option.none : Option Jvm.ClassFile.FieldType), b_rm 3 0 0, 0, "addLink")
abbrev yX2_addLink : MethodName := ⟨"BurntHall$Chains", "addLink", "(I)V"⟩
theorem dX2_addLink_0 : decode prog_4_method_7_code 0 = .ok (.aload_n 0, 1) := by decide +kernel
theorem dX2_addLink_1 : decode prog_4_method_7_code 1 = .ok (.getfield 129, 3) := by decide +kernel
theorem dX2_addLink_4 : decode prog_4_method_7_code 4 = .ok (.bipush 30, 2) := by decide +kernel
theorem dX2_addLink_6 : decode prog_4_method_7_code 6 = .ok (.if_icmp .ge 128, 3) := by decide +kernel
theorem dX2_addLink_9 : decode prog_4_method_7_code 9 = .ok (.aload_n 0, 1) := by decide +kernel
theorem dX2_addLink_10 : decode prog_4_method_7_code 10 = .ok (.getfield 13, 3) := by decide +kernel
theorem dX2_addLink_13 : decode prog_4_method_7_code 13 = .ok (.aload_n 0, 1) := by decide +kernel
theorem dX2_addLink_14 : decode prog_4_method_7_code 14 = .ok (.getfield 129, 3) := by decide +kernel
theorem dX2_addLink_17 : decode prog_4_method_7_code 17 = .ok (.iload_n 1, 1) := by decide +kernel
theorem dX2_addLink_18 : decode prog_4_method_7_code 18 = .ok (.iastore, 1) := by decide +kernel
theorem dX2_addLink_19 : decode prog_4_method_7_code 19 = .ok (.aload_n 0, 1) := by decide +kernel
theorem dX2_addLink_20 : decode prog_4_method_7_code 20 = .ok (.getfield 17, 3) := by decide +kernel
theorem dX2_addLink_23 : decode prog_4_method_7_code 23 = .ok (.aload_n 0, 1) := by decide +kernel
theorem dX2_addLink_24 : decode prog_4_method_7_code 24 = .ok (.getfield 129, 3) := by decide +kernel
theorem dX2_addLink_27 : decode prog_4_method_7_code 27 = .ok (.aload_n 0, 1) := by decide +kernel
theorem dX2_addLink_28 : decode prog_4_method_7_code 28 = .ok (.getfield 60, 3) := by decide +kernel
theorem dX2_addLink_31 : decode prog_4_method_7_code 31 = .ok (.iload_n 1, 1) := by decide +kernel
theorem dX2_addLink_32 : decode prog_4_method_7_code 32 = .ok (.iconst 3, 1) := by decide +kernel
theorem dX2_addLink_33 : decode prog_4_method_7_code 33 = .ok (.invokevirtual 138, 3) := by decide +kernel
theorem dX2_addLink_36 : decode prog_4_method_7_code 36 = .ok (.iastore, 1) := by decide +kernel
theorem dX2_addLink_37 : decode prog_4_method_7_code 37 = .ok (.aload_n 0, 1) := by decide +kernel
theorem dX2_addLink_38 : decode prog_4_method_7_code 38 = .ok (.getfield 20, 3) := by decide +kernel
theorem dX2_addLink_41 : decode prog_4_method_7_code 41 = .ok (.aload_n 0, 1) := by decide +kernel
theorem dX2_addLink_42 : decode prog_4_method_7_code 42 = .ok (.getfield 129, 3) := by decide +kernel
theorem dX2_addLink_45 : decode prog_4_method_7_code 45 = .ok (.aload_n 0, 1) := by decide +kernel
theorem dX2_addLink_46 : decode prog_4_method_7_code 46 = .ok (.getfield 60, 3) := by decide +kernel
theorem dX2_addLink_49 : decode prog_4_method_7_code 49 = .ok (.iload_n 1, 1) := by decide +kernel
theorem dX2_addLink_50 : decode prog_4_method_7_code 50 = .ok (.iconst 4, 1) := by decide +kernel
theorem dX2_addLink_51 : decode prog_4_method_7_code 51 = .ok (.invokevirtual 138, 3) := by decide +kernel
theorem dX2_addLink_54 : decode prog_4_method_7_code 54 = .ok (.iastore, 1) := by decide +kernel
theorem dX2_addLink_55 : decode prog_4_method_7_code 55 = .ok (.aload_n 0, 1) := by decide +kernel
theorem dX2_addLink_56 : decode prog_4_method_7_code 56 = .ok (.getfield 23, 3) := by decide +kernel
theorem dX2_addLink_59 : decode prog_4_method_7_code 59 = .ok (.aload_n 0, 1) := by decide +kernel
theorem dX2_addLink_60 : decode prog_4_method_7_code 60 = .ok (.getfield 129, 3) := by decide +kernel
theorem dX2_addLink_63 : decode prog_4_method_7_code 63 = .ok (.aload_n 0, 1) := by decide +kernel
theorem dX2_addLink_64 : decode prog_4_method_7_code 64 = .ok (.getfield 60, 3) := by decide +kernel
theorem dX2_addLink_67 : decode prog_4_method_7_code 67 = .ok (.iload_n 1, 1) := by decide +kernel
theorem dX2_addLink_68 : decode prog_4_method_7_code 68 = .ok (.bipush 8, 2) := by decide +kernel
theorem dX2_addLink_70 : decode prog_4_method_7_code 70 = .ok (.invokevirtual 138, 3) := by decide +kernel
theorem dX2_addLink_73 : decode prog_4_method_7_code 73 = .ok (.iastore, 1) := by decide +kernel
theorem dX2_addLink_74 : decode prog_4_method_7_code 74 = .ok (.aload_n 0, 1) := by decide +kernel
theorem dX2_addLink_75 : decode prog_4_method_7_code 75 = .ok (.getfield 26, 3) := by decide +kernel
theorem dX2_addLink_78 : decode prog_4_method_7_code 78 = .ok (.aload_n 0, 1) := by decide +kernel
theorem dX2_addLink_79 : decode prog_4_method_7_code 79 = .ok (.getfield 129, 3) := by decide +kernel
theorem dX2_addLink_82 : decode prog_4_method_7_code 82 = .ok (.aload_n 0, 1) := by decide +kernel
theorem dX2_addLink_83 : decode prog_4_method_7_code 83 = .ok (.getfield 52, 3) := by decide +kernel
theorem dX2_addLink_86 : decode prog_4_method_7_code 86 = .ok (.aload_n 0, 1) := by decide +kernel
theorem dX2_addLink_87 : decode prog_4_method_7_code 87 = .ok (.getfield 60, 3) := by decide +kernel
theorem dX2_addLink_90 : decode prog_4_method_7_code 90 = .ok (.iload_n 1, 1) := by decide +kernel
theorem dX2_addLink_91 : decode prog_4_method_7_code 91 = .ok (.iconst 0, 1) := by decide +kernel
theorem dX2_addLink_92 : decode prog_4_method_7_code 92 = .ok (.invokevirtual 138, 3) := by decide +kernel
theorem dX2_addLink_95 : decode prog_4_method_7_code 95 = .ok (.invokevirtual 116, 3) := by decide +kernel
theorem dX2_addLink_98 : decode prog_4_method_7_code 98 = .ok (.iastore, 1) := by decide +kernel
theorem dX2_addLink_99 : decode prog_4_method_7_code 99 = .ok (.aload_n 0, 1) := by decide +kernel
theorem dX2_addLink_100 : decode prog_4_method_7_code 100 = .ok (.getfield 29, 3) := by decide +kernel
theorem dX2_addLink_103 : decode prog_4_method_7_code 103 = .ok (.aload_n 0, 1) := by decide +kernel
theorem dX2_addLink_104 : decode prog_4_method_7_code 104 = .ok (.getfield 129, 3) := by decide +kernel
theorem dX2_addLink_107 : decode prog_4_method_7_code 107 = .ok (.aload_n 0, 1) := by decide +kernel
theorem dX2_addLink_108 : decode prog_4_method_7_code 108 = .ok (.getfield 52, 3) := by decide +kernel
theorem dX2_addLink_111 : decode prog_4_method_7_code 111 = .ok (.aload_n 0, 1) := by decide +kernel
theorem dX2_addLink_112 : decode prog_4_method_7_code 112 = .ok (.getfield 60, 3) := by decide +kernel
theorem dX2_addLink_115 : decode prog_4_method_7_code 115 = .ok (.iload_n 1, 1) := by decide +kernel
theorem dX2_addLink_116 : decode prog_4_method_7_code 116 = .ok (.iconst 1, 1) := by decide +kernel
theorem dX2_addLink_117 : decode prog_4_method_7_code 117 = .ok (.invokevirtual 138, 3) := by decide +kernel
theorem dX2_addLink_120 : decode prog_4_method_7_code 120 = .ok (.invokevirtual 116, 3) := by decide +kernel
theorem dX2_addLink_123 : decode prog_4_method_7_code 123 = .ok (.iastore, 1) := by decide +kernel
theorem dX2_addLink_124 : decode prog_4_method_7_code 124 = .ok (.aload_n 0, 1) := by decide +kernel
theorem dX2_addLink_125 : decode prog_4_method_7_code 125 = .ok (.dup, 1) := by decide +kernel
theorem dX2_addLink_126 : decode prog_4_method_7_code 126 = .ok (.getfield 129, 3) := by decide +kernel
theorem dX2_addLink_129 : decode prog_4_method_7_code 129 = .ok (.iconst 1, 1) := by decide +kernel
theorem dX2_addLink_130 : decode prog_4_method_7_code 130 = .ok (.iadd, 1) := by decide +kernel
theorem dX2_addLink_131 : decode prog_4_method_7_code 131 = .ok (.putfield 129, 3) := by decide +kernel
theorem dX2_addLink_134 : decode prog_4_method_7_code 134 = .ok (.return_, 1) := by decide +kernel
noncomputable def F_X2_addLink (v1 : Int) (M : bM) : Option (bM) :=
  if 30 ≤ (M 7 6) then (some M) else (b_g (0 ≤ (M 7 6) ∧ (M 7 6) < 30) (b_let (b_up M 130 (M 7 6) v1) (fun M3 => b_bind (F_X4_fact v1 3 M3) (fun x4 => b_g (0 ≤ (M3 7 6) ∧ (M3 7 6) < 30) (b_let (b_up M3 131 (M3 7 6) x4) (fun M6 => b_bind (F_X4_fact v1 4 M6) (fun x7 => b_g (0 ≤ (M6 7 6) ∧ (M6 7 6) < 30) (b_let (b_up M6 132 (M6 7 6) x7) (fun M9 => b_bind (F_X4_fact v1 8 M9) (fun x10 => b_g (0 ≤ (M9 7 6) ∧ (M9 7 6) < 30) (b_let (b_up M9 133 (M9 7 6) x10) (fun M12 => b_bind (F_X4_fact v1 0 M12) (fun x13 => b_bind (F_X8_groupOf x13 M12) (fun x14 => b_g (0 ≤ (M12 7 6) ∧ (M12 7 6) < 30) (b_let (b_up M12 134 (M12 7 6) x14) (fun M16 => b_bind (F_X4_fact v1 1 M16) (fun x17 => b_bind (F_X8_groupOf x17 M16) (fun x18 => b_g (0 ≤ (M16 7 6) ∧ (M16 7 6) < 30) (b_let (b_up M16 135 (M16 7 6) x18) (fun M20 => b_g (b_i32 ((M20 7 6) + 1)) (b_let (b_up M20 7 6 ((M20 7 6) + 1)) (fun M22 => some M22))))))))))))))))))))))
theorem t_X2_addLink {l : Launch} {E : bE} {Q : bM → Prop} {v1 : Int} {M : bM} (h : b_wp (F_X2_addLink v1 M) (Q)) : V l E xX2_addLink (0, 0) 0 [(0, bR 7), (1, bI v1)] [] M (b_pV Q) := by
  unfold F_X2_addLink at h
  refine v_aload_n (f := 0) 0 rfl dX2_addLink_0 ?_
  refine v_getI (kf := 6) (kz := 6) rfl kd_7 rfl ⟨by decide, by decide⟩ rfl wf_2_129 dX2_addLink_1 ?_
  refine v_bipush ⟨by decide, by decide⟩ (by decide) dX2_addLink_4 ?_
  refine v_icmp_ge (tgt := 134) dX2_addLink_6 (by decide) (fun c1 => ?_) (fun c1 => ?_)
  · replace h := b_wp_t c1 h
    refine v_return rfl dX2_addLink_134 ⟨by decide, by decide⟩ ?_
    exact ⟨rfl, h⟩
  · replace h := b_wp_f c1 h
    obtain ⟨g2, h⟩ := b_wp_g h
    refine v_aload_n (f := 0) 0 rfl dX2_addLink_9 ?_
    refine v_getR (kf := 7) (kz := 7) rfl kd_7 rfl ⟨by decide, by decide⟩ rfl wf_2_13 dX2_addLink_10 ?_
    refine v_aload_n (f := 0) 0 rfl dX2_addLink_13 ?_
    refine v_getI (kf := 6) (kz := 6) rfl kd_7 rfl ⟨by decide, by decide⟩ rfl wf_2_129 dX2_addLink_14 ?_
    refine v_iload_n (f := 1) 1 rfl dX2_addLink_17 ?_
    refine v_iastore kd_130 g2 (by decide) dX2_addLink_18 ?_
    replace h := b_wp_l h
    refine v_aload_n (f := 0) 0 rfl dX2_addLink_19 ?_
    refine v_getR (kf := 8) (kz := 8) rfl kd_7 rfl ⟨by decide, by decide⟩ rfl wf_2_17 dX2_addLink_20 ?_
    refine v_aload_n (f := 0) 0 rfl dX2_addLink_23 ?_
    refine v_getI (kf := 6) (kz := 6) rfl kd_7 rfl ⟨by decide, by decide⟩ rfl wf_2_129 dX2_addLink_24 ?_
    refine v_aload_n (f := 0) 0 rfl dX2_addLink_27 ?_
    refine v_getR (kf := 2) (kz := 2) rfl kd_7 rfl ⟨by decide, by decide⟩ rfl wf_2_60 dX2_addLink_28 ?_
    refine v_iload_n (f := 1) 1 rfl dX2_addLink_31 ?_
    refine v_iconst ⟨by decide, by decide⟩ dX2_addLink_32 ?_
    refine v_cVIp (nA := 2) (As := [bI _, bI _]) (ix := 138) (cf_X4_fact (b_wp_b h)) rfl kd_6 rfl rfl wc_X4_fact wm_2_138 wi_X4_fact ws_X4_fact wn_4 ⟨by decide, by decide, by decide⟩ rfl ⟨by decide, by decide⟩ ⟨by decide, by decide⟩ (Nat.le_of_ble_eq_true rfl) dX2_addLink_33 (fun x4 h => ?_)
    obtain ⟨g5, h⟩ := b_wp_g h
    refine v_iastore kd_131 g5 (by decide) dX2_addLink_36 ?_
    replace h := b_wp_l h
    refine v_aload_n (f := 0) 0 rfl dX2_addLink_37 ?_
    refine v_getR (kf := 9) (kz := 9) rfl kd_7 rfl ⟨by decide, by decide⟩ rfl wf_2_20 dX2_addLink_38 ?_
    refine v_aload_n (f := 0) 0 rfl dX2_addLink_41 ?_
    refine v_getI (kf := 6) (kz := 6) rfl kd_7 rfl ⟨by decide, by decide⟩ rfl wf_2_129 dX2_addLink_42 ?_
    refine v_aload_n (f := 0) 0 rfl dX2_addLink_45 ?_
    refine v_getR (kf := 2) (kz := 2) rfl kd_7 rfl ⟨by decide, by decide⟩ rfl wf_2_60 dX2_addLink_46 ?_
    refine v_iload_n (f := 1) 1 rfl dX2_addLink_49 ?_
    refine v_iconst ⟨by decide, by decide⟩ dX2_addLink_50 ?_
    refine v_cVIp (nA := 2) (As := [bI _, bI _]) (ix := 138) (cf_X4_fact (b_wp_b h)) rfl kd_6 rfl rfl wc_X4_fact wm_2_138 wi_X4_fact ws_X4_fact wn_4 ⟨by decide, by decide, by decide⟩ rfl ⟨by decide, by decide⟩ ⟨by decide, by decide⟩ (Nat.le_of_ble_eq_true rfl) dX2_addLink_51 (fun x7 h => ?_)
    obtain ⟨g8, h⟩ := b_wp_g h
    refine v_iastore kd_132 g8 (by decide) dX2_addLink_54 ?_
    replace h := b_wp_l h
    refine v_aload_n (f := 0) 0 rfl dX2_addLink_55 ?_
    refine v_getR (kf := 10) (kz := 10) rfl kd_7 rfl ⟨by decide, by decide⟩ rfl wf_2_23 dX2_addLink_56 ?_
    refine v_aload_n (f := 0) 0 rfl dX2_addLink_59 ?_
    refine v_getI (kf := 6) (kz := 6) rfl kd_7 rfl ⟨by decide, by decide⟩ rfl wf_2_129 dX2_addLink_60 ?_
    refine v_aload_n (f := 0) 0 rfl dX2_addLink_63 ?_
    refine v_getR (kf := 2) (kz := 2) rfl kd_7 rfl ⟨by decide, by decide⟩ rfl wf_2_60 dX2_addLink_64 ?_
    refine v_iload_n (f := 1) 1 rfl dX2_addLink_67 ?_
    refine v_bipush ⟨by decide, by decide⟩ (by decide) dX2_addLink_68 ?_
    refine v_cVIp (nA := 2) (As := [bI _, bI _]) (ix := 138) (cf_X4_fact (b_wp_b h)) rfl kd_6 rfl rfl wc_X4_fact wm_2_138 wi_X4_fact ws_X4_fact wn_4 ⟨by decide, by decide, by decide⟩ rfl ⟨by decide, by decide⟩ ⟨by decide, by decide⟩ (Nat.le_of_ble_eq_true rfl) dX2_addLink_70 (fun x10 h => ?_)
    obtain ⟨g11, h⟩ := b_wp_g h
    refine v_iastore kd_133 g11 (by decide) dX2_addLink_73 ?_
    replace h := b_wp_l h
    refine v_aload_n (f := 0) 0 rfl dX2_addLink_74 ?_
    refine v_getR (kf := 11) (kz := 11) rfl kd_7 rfl ⟨by decide, by decide⟩ rfl wf_2_26 dX2_addLink_75 ?_
    refine v_aload_n (f := 0) 0 rfl dX2_addLink_78 ?_
    refine v_getI (kf := 6) (kz := 6) rfl kd_7 rfl ⟨by decide, by decide⟩ rfl wf_2_129 dX2_addLink_79 ?_
    refine v_aload_n (f := 0) 0 rfl dX2_addLink_82 ?_
    refine v_getR (kf := 0) (kz := 0) rfl kd_7 rfl ⟨by decide, by decide⟩ rfl wf_2_52 dX2_addLink_83 ?_
    refine v_aload_n (f := 0) 0 rfl dX2_addLink_86 ?_
    refine v_getR (kf := 2) (kz := 2) rfl kd_7 rfl ⟨by decide, by decide⟩ rfl wf_2_60 dX2_addLink_87 ?_
    refine v_iload_n (f := 1) 1 rfl dX2_addLink_90 ?_
    refine v_iconst ⟨by decide, by decide⟩ dX2_addLink_91 ?_
    refine v_cVIp (nA := 2) (As := [bI _, bI _]) (ix := 138) (cf_X4_fact (b_wp_b h)) rfl kd_6 rfl rfl wc_X4_fact wm_2_138 wi_X4_fact ws_X4_fact wn_4 ⟨by decide, by decide, by decide⟩ rfl ⟨by decide, by decide⟩ ⟨by decide, by decide⟩ (Nat.le_of_ble_eq_true rfl) dX2_addLink_92 (fun x13 h => ?_)
    refine v_cVIp (nA := 1) (As := [bI _]) (ix := 116) (cf_X8_groupOf (b_wp_b h)) rfl kd_2 rfl rfl wc_X8_groupOf wm_2_116 wi_X8_groupOf ws_X8_groupOf wn_8 ⟨by decide, by decide, by decide⟩ rfl ⟨by decide, by decide⟩ ⟨by decide, by decide⟩ (Nat.le_of_ble_eq_true rfl) dX2_addLink_95 (fun x14 h => ?_)
    obtain ⟨g15, h⟩ := b_wp_g h
    refine v_iastore kd_134 g15 (by decide) dX2_addLink_98 ?_
    replace h := b_wp_l h
    refine v_aload_n (f := 0) 0 rfl dX2_addLink_99 ?_
    refine v_getR (kf := 12) (kz := 12) rfl kd_7 rfl ⟨by decide, by decide⟩ rfl wf_2_29 dX2_addLink_100 ?_
    refine v_aload_n (f := 0) 0 rfl dX2_addLink_103 ?_
    refine v_getI (kf := 6) (kz := 6) rfl kd_7 rfl ⟨by decide, by decide⟩ rfl wf_2_129 dX2_addLink_104 ?_
    refine v_aload_n (f := 0) 0 rfl dX2_addLink_107 ?_
    refine v_getR (kf := 0) (kz := 0) rfl kd_7 rfl ⟨by decide, by decide⟩ rfl wf_2_52 dX2_addLink_108 ?_
    refine v_aload_n (f := 0) 0 rfl dX2_addLink_111 ?_
    refine v_getR (kf := 2) (kz := 2) rfl kd_7 rfl ⟨by decide, by decide⟩ rfl wf_2_60 dX2_addLink_112 ?_
    refine v_iload_n (f := 1) 1 rfl dX2_addLink_115 ?_
    refine v_iconst ⟨by decide, by decide⟩ dX2_addLink_116 ?_
    refine v_cVIp (nA := 2) (As := [bI _, bI _]) (ix := 138) (cf_X4_fact (b_wp_b h)) rfl kd_6 rfl rfl wc_X4_fact wm_2_138 wi_X4_fact ws_X4_fact wn_4 ⟨by decide, by decide, by decide⟩ rfl ⟨by decide, by decide⟩ ⟨by decide, by decide⟩ (Nat.le_of_ble_eq_true rfl) dX2_addLink_117 (fun x17 h => ?_)
    refine v_cVIp (nA := 1) (As := [bI _]) (ix := 116) (cf_X8_groupOf (b_wp_b h)) rfl kd_2 rfl rfl wc_X8_groupOf wm_2_116 wi_X8_groupOf ws_X8_groupOf wn_8 ⟨by decide, by decide, by decide⟩ rfl ⟨by decide, by decide⟩ ⟨by decide, by decide⟩ (Nat.le_of_ble_eq_true rfl) dX2_addLink_120 (fun x18 h => ?_)
    obtain ⟨g19, h⟩ := b_wp_g h
    refine v_iastore kd_135 g19 (by decide) dX2_addLink_123 ?_
    replace h := b_wp_l h
    obtain ⟨g21, h⟩ := b_wp_g h
    refine v_aload_n (f := 0) 0 rfl dX2_addLink_124 ?_
    refine v_dup rfl dX2_addLink_125 ?_
    refine v_getI (kf := 6) (kz := 6) rfl kd_7 rfl ⟨by decide, by decide⟩ rfl wf_2_129 dX2_addLink_126 ?_
    refine v_iconst ⟨by decide, by decide⟩ dX2_addLink_129 ?_
    refine v_iaddN g21 dX2_addLink_130 ?_
    refine v_putI (kf := 6) (kz := 6) rfl kd_7 rfl ⟨by decide, by decide⟩ rfl wf_2_129 rfl rfl dX2_addLink_131 ?_
    replace h := b_wp_l h
    refine v_return rfl dX2_addLink_134 ⟨by decide, by decide⟩ ?_
    exact ⟨rfl, h⟩
theorem cf_X2_addLink {l : Launch} {E : bE} {M : bM} {v1 : Int} {Q : bM → Prop} (h : b_wp (F_X2_addLink v1 M) Q) : b_C l E xX2_addLink yX2_addLink [bR 7, bI v1] M (b_pV Q) := b_met (by decide) ⟨rfl, rfl⟩ (Nat.le_of_ble_eq_true rfl) (fun _ _ => t_X2_addLink h)
abbrev xX8_isChild : bX := ("BurntHall$People", prog_10_method_11_code, 5, (Option.some Jvm.ClassFile.FieldType.boolean), b_rm 2 0 0, 0, "isChild")
abbrev yX8_isChild : MethodName := ⟨"BurntHall$People", "isChild", "(II)Z"⟩
theorem dX8_isChild_0 : decode prog_10_method_11_code 0 = .ok (.aload_n 0, 1) := by decide +kernel
theorem dX8_isChild_1 : decode prog_10_method_11_code 1 = .ok (.iload_n 1, 1) := by decide +kernel
theorem dX8_isChild_2 : decode prog_10_method_11_code 2 = .ok (.invokevirtual 73, 3) := by decide +kernel
theorem dX8_isChild_5 : decode prog_10_method_11_code 5 = .ok (.ifCond .eq 11, 3) := by decide +kernel
theorem dX8_isChild_8 : decode prog_10_method_11_code 8 = .ok (.aload_n 0, 1) := by decide +kernel
theorem dX8_isChild_9 : decode prog_10_method_11_code 9 = .ok (.iload_n 2, 1) := by decide +kernel
theorem dX8_isChild_10 : decode prog_10_method_11_code 10 = .ok (.invokevirtual 73, 3) := by decide +kernel
theorem dX8_isChild_13 : decode prog_10_method_11_code 13 = .ok (.ifCond .ne 5, 3) := by decide +kernel
theorem dX8_isChild_16 : decode prog_10_method_11_code 16 = .ok (.iconst 0, 1) := by decide +kernel
theorem dX8_isChild_17 : decode prog_10_method_11_code 17 = .ok (.ireturn, 1) := by decide +kernel
theorem dX8_isChild_18 : decode prog_10_method_11_code 18 = .ok (.iload_n 2, 1) := by decide +kernel
theorem dX8_isChild_19 : decode prog_10_method_11_code 19 = .ok (.bipush 64, 2) := by decide +kernel
theorem dX8_isChild_21 : decode prog_10_method_11_code 21 = .ok (.if_icmp .ge 14, 3) := by decide +kernel
theorem dX8_isChild_24 : decode prog_10_method_11_code 24 = .ok (.aload_n 0, 1) := by decide +kernel
theorem dX8_isChild_25 : decode prog_10_method_11_code 25 = .ok (.getfield 37, 3) := by decide +kernel
theorem dX8_isChild_28 : decode prog_10_method_11_code 28 = .ok (.iload_n 1, 1) := by decide +kernel
theorem dX8_isChild_29 : decode prog_10_method_11_code 29 = .ok (.laload, 1) := by decide +kernel
theorem dX8_isChild_30 : decode prog_10_method_11_code 30 = .ok (.iload_n 2, 1) := by decide +kernel
theorem dX8_isChild_31 : decode prog_10_method_11_code 31 = .ok (.lushr, 1) := by decide +kernel
theorem dX8_isChild_32 : decode prog_10_method_11_code 32 = .ok (.goto 14, 3) := by decide +kernel
theorem dX8_isChild_35 : decode prog_10_method_11_code 35 = .ok (.aload_n 0, 1) := by decide +kernel
theorem dX8_isChild_36 : decode prog_10_method_11_code 36 = .ok (.getfield 41, 3) := by decide +kernel
theorem dX8_isChild_39 : decode prog_10_method_11_code 39 = .ok (.iload_n 1, 1) := by decide +kernel
theorem dX8_isChild_40 : decode prog_10_method_11_code 40 = .ok (.laload, 1) := by decide +kernel
theorem dX8_isChild_41 : decode prog_10_method_11_code 41 = .ok (.iload_n 2, 1) := by decide +kernel
theorem dX8_isChild_42 : decode prog_10_method_11_code 42 = .ok (.bipush 64, 2) := by decide +kernel
theorem dX8_isChild_44 : decode prog_10_method_11_code 44 = .ok (.isub, 1) := by decide +kernel
theorem dX8_isChild_45 : decode prog_10_method_11_code 45 = .ok (.lushr, 1) := by decide +kernel
theorem dX8_isChild_46 : decode prog_10_method_11_code 46 = .ok (.lstore_n 3, 1) := by decide +kernel
theorem dX8_isChild_47 : decode prog_10_method_11_code 47 = .ok (.lload_n 3, 1) := by decide +kernel
theorem dX8_isChild_48 : decode prog_10_method_11_code 48 = .ok (.lconst 1, 1) := by decide +kernel
theorem dX8_isChild_49 : decode prog_10_method_11_code 49 = .ok (.land, 1) := by decide +kernel
theorem dX8_isChild_50 : decode prog_10_method_11_code 50 = .ok (.lconst 0, 1) := by decide +kernel
theorem dX8_isChild_51 : decode prog_10_method_11_code 51 = .ok (.lcmp, 1) := by decide +kernel
theorem dX8_isChild_52 : decode prog_10_method_11_code 52 = .ok (.ifCond .eq 7, 3) := by decide +kernel
theorem dX8_isChild_55 : decode prog_10_method_11_code 55 = .ok (.iconst 1, 1) := by decide +kernel
theorem dX8_isChild_56 : decode prog_10_method_11_code 56 = .ok (.goto 4, 3) := by decide +kernel
theorem dX8_isChild_59 : decode prog_10_method_11_code 59 = .ok (.iconst 0, 1) := by decide +kernel
theorem dX8_isChild_60 : decode prog_10_method_11_code 60 = .ok (.ireturn, 1) := by decide +kernel
noncomputable def F_X8_isChild_b46 (u0 : Int) (M : bM) : Option (Int) :=
  if (j_cmp (j_and u0 1) 0) = 0 then (some 0) else (some 1)
theorem t_X8_isChild_b46 {l : Launch} {E : bE} {Q : Int → Prop} {u0 : Int} {M : bM} (h : b_wp (F_X8_isChild_b46 u0 M) (Q)) : V l E xX8_isChild (0, 0) 46 [] [bJ u0] M (b_pIp M Q) := by
  unfold F_X8_isChild_b46 at h
  refine v_lstore_n (g := 3) (i := 3) (ls' := [(3, bJ _)]) rfl (by decide) dX8_isChild_46 rfl ?_
  refine v_lload_n (f := 3) 0 rfl dX8_isChild_47 ?_
  refine v_lconst1 dX8_isChild_48 ?_
  refine v_land (v := j_and _ _) rfl dX8_isChild_49 ?_
  refine v_lconst0 dX8_isChild_50 ?_
  refine v_lcmpN dX8_isChild_51 ?_
  refine v_if_eq (tgt := 59) dX8_isChild_52 (by decide) (fun c8 => ?_) (fun c8 => ?_)
  · replace h := b_wp_t c8 h
    refine v_iconst ⟨by decide, by decide⟩ dX8_isChild_59 ?_
    refine v_zreturn rfl (Or.inl rfl) dX8_isChild_60 ⟨by decide, by decide⟩ ?_
    exact ⟨_, rfl, rfl, h⟩
  · replace h := b_wp_f c8 h
    refine v_iconst ⟨by decide, by decide⟩ dX8_isChild_55 ?_
    refine v_goto (tgt := 60) dX8_isChild_56 (by decide) ?_
    refine v_zreturn rfl (Or.inr rfl) dX8_isChild_60 ⟨by decide, by decide⟩ ?_
    exact ⟨_, rfl, rfl, h⟩
noncomputable def F_X8_isChild (v1 : Int) (v2 : Int) (M : bM) : Option (Int) :=
  b_bind (F_X8_has v1 M) (fun x1 => if x1 = 0 then (some 0) else (b_bind (F_X8_has v2 M) (fun x3 => if x3 = 0 then (some 0) else (if 64 ≤ v2 then (b_g ((0 ≤ v1 ∧ v1 < 80) ∧ (b_i32 (v2 - 64))) (F_X8_isChild_b46 (j_ushr (M 84 v1) (v2 - 64)) M)) else (b_g (0 ≤ v1 ∧ v1 < 80) (F_X8_isChild_b46 (j_ushr (M 83 v1) v2) M))))))
theorem t_X8_isChild {l : Launch} {E : bE} {Q : Int → Prop} {v1 : Int} {v2 : Int} {M : bM} (h : b_wp (F_X8_isChild v1 v2 M) (Q)) : V l E xX8_isChild (0, 0) 0 [(0, bR 2), (1, bI v1), (2, bI v2)] [] M (b_pIp M Q) := by
  unfold F_X8_isChild at h
  refine v_aload_n (f := 0) 0 rfl dX8_isChild_0 ?_
  refine v_iload_n (f := 1) 1 rfl dX8_isChild_1 ?_
  refine v_cVIp (nA := 1) (As := [bI _]) (ix := 73) (cf_X8_has (b_wp_b h)) rfl kd_2 rfl rfl wc_X8_has wm_8_73 wi_X8_has ws_X8_has wn_8 ⟨by decide, by decide, by decide⟩ rfl ⟨by decide, by decide⟩ ⟨by decide, by decide⟩ (Nat.le_of_ble_eq_true rfl) dX8_isChild_2 (fun x1 h => ?_)
  refine v_if_eq (tgt := 16) dX8_isChild_5 (by decide) (fun c2 => ?_) (fun c2 => ?_)
  · replace h := b_wp_t c2 h
    refine v_iconst ⟨by decide, by decide⟩ dX8_isChild_16 ?_
    refine v_zreturn rfl (Or.inl rfl) dX8_isChild_17 ⟨by decide, by decide⟩ ?_
    exact ⟨_, rfl, rfl, h⟩
  · replace h := b_wp_f c2 h
    refine v_aload_n (f := 0) 0 rfl dX8_isChild_8 ?_
    refine v_iload_n (f := 2) 2 rfl dX8_isChild_9 ?_
    refine v_cVIp (nA := 1) (As := [bI _]) (ix := 73) (cf_X8_has (b_wp_b h)) rfl kd_2 rfl rfl wc_X8_has wm_8_73 wi_X8_has ws_X8_has wn_8 ⟨by decide, by decide, by decide⟩ rfl ⟨by decide, by decide⟩ ⟨by decide, by decide⟩ (Nat.le_of_ble_eq_true rfl) dX8_isChild_10 (fun x3 h => ?_)
    refine v_if_ne (tgt := 18) dX8_isChild_13 (by decide) (fun c4 => ?_) (fun c4 => ?_)
    · replace h := b_wp_f c4 h
      refine v_iload_n (f := 2) 2 rfl dX8_isChild_18 ?_
      refine v_bipush ⟨by decide, by decide⟩ (by decide) dX8_isChild_19 ?_
      refine v_icmp_ge (tgt := 35) dX8_isChild_21 (by decide) (fun c5 => ?_) (fun c5 => ?_)
      · replace h := b_wp_t c5 h
        obtain ⟨⟨g6, g7⟩, h⟩ := b_wp_g h
        refine v_aload_n (f := 0) 0 rfl dX8_isChild_35 ?_
        refine v_getR (kf := 13) (kz := 13) rfl kd_2 rfl ⟨by decide, by decide⟩ rfl wf_8_41 dX8_isChild_36 ?_
        refine v_iload_n (f := 1) 1 rfl dX8_isChild_39 ?_
        refine v_laload kd_84 g6 (by decide) dX8_isChild_40 ?_
        refine v_iload_n (f := 2) 2 rfl dX8_isChild_41 ?_
        refine v_bipush ⟨by decide, by decide⟩ (by decide) dX8_isChild_42 ?_
        refine v_isubN g7 dX8_isChild_44 ?_
        refine v_lushr (v := j_ushr _ _) rfl dX8_isChild_45 ?_
        refine v_sub (ls2 := []) [] rfl ?_
        exact t_X8_isChild_b46 h
      · replace h := b_wp_f c5 h
        obtain ⟨g9, h⟩ := b_wp_g h
        refine v_aload_n (f := 0) 0 rfl dX8_isChild_24 ?_
        refine v_getR (kf := 12) (kz := 12) rfl kd_2 rfl ⟨by decide, by decide⟩ rfl wf_8_37 dX8_isChild_25 ?_
        refine v_iload_n (f := 1) 1 rfl dX8_isChild_28 ?_
        refine v_laload kd_83 g9 (by decide) dX8_isChild_29 ?_
        refine v_iload_n (f := 2) 2 rfl dX8_isChild_30 ?_
        refine v_lushr (v := j_ushr _ _) rfl dX8_isChild_31 ?_
        refine v_goto (tgt := 46) dX8_isChild_32 (by decide) ?_
        refine v_sub (ls2 := []) [] rfl ?_
        exact t_X8_isChild_b46 h
    · replace h := b_wp_t c4 h
      refine v_iconst ⟨by decide, by decide⟩ dX8_isChild_16 ?_
      refine v_zreturn rfl (Or.inl rfl) dX8_isChild_17 ⟨by decide, by decide⟩ ?_
      exact ⟨_, rfl, rfl, h⟩
theorem cf_X8_isChild {l : Launch} {E : bE} {M : bM} {v1 : Int} {v2 : Int} {Q : Int → Prop} (h : b_wp (F_X8_isChild v1 v2 M) Q) : b_C l E xX8_isChild yX8_isChild [bR 2, bI v1, bI v2] M (b_pIp M Q) := b_met (by decide) ⟨rfl, rfl⟩ (Nat.le_of_ble_eq_true rfl) (fun _ _ => t_X8_isChild h)
abbrev xX2_linksAfter : bX := ("BurntHall$Chains", prog_4_method_8_code, 6, (Option.some Jvm.ClassFile.FieldType.int), b_rm 3 0 0, 0, "linksAfter")
abbrev yX2_linksAfter : MethodName := ⟨"BurntHall$Chains", "linksAfter", "(I)I"⟩
theorem dX2_linksAfter_0 : decode prog_4_method_8_code 0 = .ok (.iconst 0, 1) := by decide +kernel
theorem dX2_linksAfter_1 : decode prog_4_method_8_code 1 = .ok (.istore_n 2, 1) := by decide +kernel
theorem dX2_linksAfter_2 : decode prog_4_method_8_code 2 = .ok (.iconst 0, 1) := by decide +kernel
theorem dX2_linksAfter_3 : decode prog_4_method_8_code 3 = .ok (.istore_n 3, 1) := by decide +kernel
theorem dX2_linksAfter_4 : decode prog_4_method_8_code 4 = .ok (.iload_n 3, 1) := by decide +kernel
theorem dX2_linksAfter_5 : decode prog_4_method_8_code 5 = .ok (.aload_n 0, 1) := by decide +kernel
theorem dX2_linksAfter_6 : decode prog_4_method_8_code 6 = .ok (.getfield 129, 3) := by decide +kernel
theorem dX2_linksAfter_9 : decode prog_4_method_8_code 9 = .ok (.if_icmp .ge 104, 3) := by decide +kernel
theorem dX2_linksAfter_12 : decode prog_4_method_8_code 12 = .ok (.aload_n 0, 1) := by decide +kernel
theorem dX2_linksAfter_13 : decode prog_4_method_8_code 13 = .ok (.getfield 112, 3) := by decide +kernel
theorem dX2_linksAfter_16 : decode prog_4_method_8_code 16 = .ok (.ifCond .eq 41, 3) := by decide +kernel
theorem dX2_linksAfter_19 : decode prog_4_method_8_code 19 = .ok (.aload_n 0, 1) := by decide +kernel
theorem dX2_linksAfter_20 : decode prog_4_method_8_code 20 = .ok (.getfield 52, 3) := by decide +kernel
theorem dX2_linksAfter_23 : decode prog_4_method_8_code 23 = .ok (.iload_n 1, 1) := by decide +kernel
theorem dX2_linksAfter_24 : decode prog_4_method_8_code 24 = .ok (.aload_n 0, 1) := by decide +kernel
theorem dX2_linksAfter_25 : decode prog_4_method_8_code 25 = .ok (.getfield 20, 3) := by decide +kernel
theorem dX2_linksAfter_28 : decode prog_4_method_8_code 28 = .ok (.iload_n 3, 1) := by decide +kernel
theorem dX2_linksAfter_29 : decode prog_4_method_8_code 29 = .ok (.iaload, 1) := by decide +kernel
theorem dX2_linksAfter_30 : decode prog_4_method_8_code 30 = .ok (.invokevirtual 164, 3) := by decide +kernel
theorem dX2_linksAfter_33 : decode prog_4_method_8_code 33 = .ok (.ifCond .eq 24, 3) := by decide +kernel
theorem dX2_linksAfter_36 : decode prog_4_method_8_code 36 = .ok (.aload_n 0, 1) := by decide +kernel
theorem dX2_linksAfter_37 : decode prog_4_method_8_code 37 = .ok (.getfield 52, 3) := by decide +kernel
theorem dX2_linksAfter_40 : decode prog_4_method_8_code 40 = .ok (.iload_n 1, 1) := by decide +kernel
theorem dX2_linksAfter_41 : decode prog_4_method_8_code 41 = .ok (.aload_n 0, 1) := by decide +kernel
theorem dX2_linksAfter_42 : decode prog_4_method_8_code 42 = .ok (.getfield 26, 3) := by decide +kernel
theorem dX2_linksAfter_45 : decode prog_4_method_8_code 45 = .ok (.iload_n 3, 1) := by decide +kernel
theorem dX2_linksAfter_46 : decode prog_4_method_8_code 46 = .ok (.iaload, 1) := by decide +kernel
theorem dX2_linksAfter_47 : decode prog_4_method_8_code 47 = .ok (.invokevirtual 168, 3) := by decide +kernel
theorem dX2_linksAfter_50 : decode prog_4_method_8_code 50 = .ok (.ifCond .eq 7, 3) := by decide +kernel
theorem dX2_linksAfter_53 : decode prog_4_method_8_code 53 = .ok (.iconst 1, 1) := by decide +kernel
theorem dX2_linksAfter_54 : decode prog_4_method_8_code 54 = .ok (.goto 4, 3) := by decide +kernel
theorem dX2_linksAfter_57 : decode prog_4_method_8_code 57 = .ok (.iconst 0, 1) := by decide +kernel
theorem dX2_linksAfter_58 : decode prog_4_method_8_code 58 = .ok (.istore 4, 2) := by decide +kernel
theorem dX2_linksAfter_60 : decode prog_4_method_8_code 60 = .ok (.aload_n 0, 1) := by decide +kernel
theorem dX2_linksAfter_61 : decode prog_4_method_8_code 61 = .ok (.getfield 26, 3) := by decide +kernel
theorem dX2_linksAfter_64 : decode prog_4_method_8_code 64 = .ok (.iload_n 3, 1) := by decide +kernel
theorem dX2_linksAfter_65 : decode prog_4_method_8_code 65 = .ok (.iaload, 1) := by decide +kernel
theorem dX2_linksAfter_66 : decode prog_4_method_8_code 66 = .ok (.iconst (-1), 1) := by decide +kernel
theorem dX2_linksAfter_67 : decode prog_4_method_8_code 67 = .ok (.if_icmp .eq 22, 3) := by decide +kernel
theorem dX2_linksAfter_70 : decode prog_4_method_8_code 70 = .ok (.aload_n 0, 1) := by decide +kernel
theorem dX2_linksAfter_71 : decode prog_4_method_8_code 71 = .ok (.getfield 26, 3) := by decide +kernel
theorem dX2_linksAfter_74 : decode prog_4_method_8_code 74 = .ok (.iload_n 3, 1) := by decide +kernel
theorem dX2_linksAfter_75 : decode prog_4_method_8_code 75 = .ok (.iaload, 1) := by decide +kernel
theorem dX2_linksAfter_76 : decode prog_4_method_8_code 76 = .ok (.iload_n 1, 1) := by decide +kernel
theorem dX2_linksAfter_77 : decode prog_4_method_8_code 77 = .ok (.if_icmp .eq 8, 3) := by decide +kernel
theorem dX2_linksAfter_80 : decode prog_4_method_8_code 80 = .ok (.iload 4, 2) := by decide +kernel
theorem dX2_linksAfter_82 : decode prog_4_method_8_code 82 = .ok (.ifCond .eq 7, 3) := by decide +kernel
theorem dX2_linksAfter_85 : decode prog_4_method_8_code 85 = .ok (.iconst 1, 1) := by decide +kernel
theorem dX2_linksAfter_86 : decode prog_4_method_8_code 86 = .ok (.goto 4, 3) := by decide +kernel
theorem dX2_linksAfter_89 : decode prog_4_method_8_code 89 = .ok (.iconst 0, 1) := by decide +kernel
theorem dX2_linksAfter_90 : decode prog_4_method_8_code 90 = .ok (.istore 5, 2) := by decide +kernel
theorem dX2_linksAfter_92 : decode prog_4_method_8_code 92 = .ok (.iload_n 2, 1) := by decide +kernel
theorem dX2_linksAfter_93 : decode prog_4_method_8_code 93 = .ok (.iload 5, 2) := by decide +kernel
theorem dX2_linksAfter_95 : decode prog_4_method_8_code 95 = .ok (.ifCond .eq 9, 3) := by decide +kernel
theorem dX2_linksAfter_98 : decode prog_4_method_8_code 98 = .ok (.iconst 1, 1) := by decide +kernel
theorem dX2_linksAfter_99 : decode prog_4_method_8_code 99 = .ok (.iload_n 3, 1) := by decide +kernel
theorem dX2_linksAfter_100 : decode prog_4_method_8_code 100 = .ok (.ishl, 1) := by decide +kernel
theorem dX2_linksAfter_101 : decode prog_4_method_8_code 101 = .ok (.goto 4, 3) := by decide +kernel
theorem dX2_linksAfter_104 : decode prog_4_method_8_code 104 = .ok (.iconst 0, 1) := by decide +kernel
theorem dX2_linksAfter_105 : decode prog_4_method_8_code 105 = .ok (.ior, 1) := by decide +kernel
theorem dX2_linksAfter_106 : decode prog_4_method_8_code 106 = .ok (.istore_n 2, 1) := by decide +kernel
theorem dX2_linksAfter_107 : decode prog_4_method_8_code 107 = .ok (.iinc 3 1, 3) := by decide +kernel
theorem dX2_linksAfter_110 : decode prog_4_method_8_code 110 = .ok (.goto (-106), 3) := by decide +kernel
theorem dX2_linksAfter_113 : decode prog_4_method_8_code 113 = .ok (.iload_n 2, 1) := by decide +kernel
theorem dX2_linksAfter_114 : decode prog_4_method_8_code 114 = .ok (.ireturn, 1) := by decide +kernel
abbrev A_X2_linksAfter_4 (l : Launch) (E : bE) (Q : Int → Prop) (v1 : Int) (M : bM) : (Int × Int) → Prop := (fun t : Int × Int => V l E xX2_linksAfter (0, 0) 4 [(0, bR 7), (1, bI v1), (2, bI (t.1)), (3, bI (t.2))] [] M (b_pIp M Q))
abbrev X_X2_linksAfter_4 (l : Launch) (E : bE) (Q : Int → Prop) (v1 : Int) (M : bM) : (Int) → Prop := (fun t : Int => V l E xX2_linksAfter (0, 0) 113 [(2, bI t)] [] M (b_pIp M Q))
noncomputable def F_X2_linksAfter_b105 (v1 : Int) (v3 : Int) (u0 : Int) (u1 : Int) (M : bM) : Option ((Int × Int) ⊕ (Int)) :=
  b_let ((i_or u0 u1)) (fun y6 => b_g (b_i32 (v3 + 1)) (some (.inl (y6, (v3 + 1)))))
theorem t_X2_linksAfter_b105 {l : Launch} {E : bE} {Q : Int → Prop} {v1 : Int} {v3 : Int} {u0 : Int} {u1 : Int} {M : bM} (h : b_wp (F_X2_linksAfter_b105 v1 v3 u0 u1 M) (Sum.elim (A_X2_linksAfter_4 l E Q v1 M) (X_X2_linksAfter_4 l E Q v1 M))) : V l E xX2_linksAfter (0, 0) 105 [(0, bR 7), (1, bI v1), (3, bI v3)] [bI u1, bI u0] M (b_pIp M Q) := by
  unfold F_X2_linksAfter_b105 at h
  refine v_ior (v := i_or _ _) rfl dX2_linksAfter_105 ?_
  replace h := b_wp_l h
  obtain ⟨g7, h⟩ := b_wp_g h
  refine v_istore_n (g := 2) (i := 2) (ls' := [(2, bI _), (0, bR _), (1, bI _), (3, bI _)]) rfl (by decide) dX2_linksAfter_106 rfl ?_
  refine v_iincN (ls' := [(3, bI _), (2, bI _), (0, bR _), (1, bI _)]) 3 rfl (by decide) g7 dX2_linksAfter_107 rfl ?_
  refine v_goto (tgt := 4) dX2_linksAfter_110 (by decide) ?_
  refine v_sub (ls2 := [(0, bR _), (1, bI _), (2, bI _), (3, bI _)]) [2, 3, 1, 0] rfl ?_
  exact h
noncomputable def F_X2_linksAfter_b90 (v1 : Int) (v2 : Int) (v3 : Int) (u0 : Int) (M : bM) : Option ((Int × Int) ⊕ (Int)) :=
  if u0 = 0 then (F_X2_linksAfter_b105 v1 v3 v2 0 M) else (F_X2_linksAfter_b105 v1 v3 v2 (i_shl 1 v3) M)
theorem t_X2_linksAfter_b90 {l : Launch} {E : bE} {Q : Int → Prop} {v1 : Int} {v2 : Int} {v3 : Int} {u0 : Int} {M : bM} (h : b_wp (F_X2_linksAfter_b90 v1 v2 v3 u0 M) (Sum.elim (A_X2_linksAfter_4 l E Q v1 M) (X_X2_linksAfter_4 l E Q v1 M))) : V l E xX2_linksAfter (0, 0) 90 [(0, bR 7), (1, bI v1), (2, bI v2), (3, bI v3)] [bI u0] M (b_pIp M Q) := by
  unfold F_X2_linksAfter_b90 at h
  refine v_istore (i := 5) (ls' := [(5, bI _), (0, bR _), (1, bI _), (2, bI _), (3, bI _)]) (by decide) dX2_linksAfter_90 rfl ?_
  refine v_iload_n (f := 2) 3 rfl dX2_linksAfter_92 ?_
  refine v_iload (i := 5) 0 rfl dX2_linksAfter_93 ?_
  refine v_if_eq (tgt := 104) dX2_linksAfter_95 (by decide) (fun c5 => ?_) (fun c5 => ?_)
  · replace h := b_wp_t c5 h
    refine v_iconst ⟨by decide, by decide⟩ dX2_linksAfter_104 ?_
    refine v_sub (ls2 := [(0, bR _), (1, bI _), (3, bI _)]) [1, 2, 4] rfl ?_
    exact t_X2_linksAfter_b105 h
  · replace h := b_wp_f c5 h
    refine v_iconst ⟨by decide, by decide⟩ dX2_linksAfter_98 ?_
    refine v_iload_n (f := 3) 4 rfl dX2_linksAfter_99 ?_
    refine v_ishl (v := i_shl _ _) rfl dX2_linksAfter_100 ?_
    refine v_goto (tgt := 105) dX2_linksAfter_101 (by decide) ?_
    refine v_sub (ls2 := [(0, bR _), (1, bI _), (3, bI _)]) [1, 2, 4] rfl ?_
    exact t_X2_linksAfter_b105 h
noncomputable def F_X2_linksAfter_b89 (v1 : Int) (v2 : Int) (v3 : Int) (M : bM) : Option ((Int × Int) ⊕ (Int)) :=
  F_X2_linksAfter_b90 v1 v2 v3 0 M
theorem t_X2_linksAfter_b89 {l : Launch} {E : bE} {Q : Int → Prop} {v1 : Int} {v2 : Int} {v3 : Int} {M : bM} (h : b_wp (F_X2_linksAfter_b89 v1 v2 v3 M) (Sum.elim (A_X2_linksAfter_4 l E Q v1 M) (X_X2_linksAfter_4 l E Q v1 M))) : V l E xX2_linksAfter (0, 0) 89 [(0, bR 7), (1, bI v1), (2, bI v2), (3, bI v3)] [] M (b_pIp M Q) := by
  unfold F_X2_linksAfter_b89 at h
  refine v_iconst ⟨by decide, by decide⟩ dX2_linksAfter_89 ?_
  exact t_X2_linksAfter_b90 h
noncomputable def F_X2_linksAfter_b85 (v1 : Int) (v2 : Int) (v3 : Int) (M : bM) : Option ((Int × Int) ⊕ (Int)) :=
  F_X2_linksAfter_b90 v1 v2 v3 1 M
theorem t_X2_linksAfter_b85 {l : Launch} {E : bE} {Q : Int → Prop} {v1 : Int} {v2 : Int} {v3 : Int} {M : bM} (h : b_wp (F_X2_linksAfter_b85 v1 v2 v3 M) (Sum.elim (A_X2_linksAfter_4 l E Q v1 M) (X_X2_linksAfter_4 l E Q v1 M))) : V l E xX2_linksAfter (0, 0) 85 [(0, bR 7), (1, bI v1), (2, bI v2), (3, bI v3)] [] M (b_pIp M Q) := by
  unfold F_X2_linksAfter_b85 at h
  refine v_iconst ⟨by decide, by decide⟩ dX2_linksAfter_85 ?_
  refine v_goto (tgt := 90) dX2_linksAfter_86 (by decide) ?_
  exact t_X2_linksAfter_b90 h
noncomputable def F_X2_linksAfter_b58 (v1 : Int) (v2 : Int) (v3 : Int) (u0 : Int) (M : bM) : Option ((Int × Int) ⊕ (Int)) :=
  b_g (0 ≤ v3 ∧ v3 < 30) (if (M 134 v3) = (-1) then (F_X2_linksAfter_b89 v1 v2 v3 M) else (b_g (0 ≤ v3 ∧ v3 < 30) (if (M 134 v3) = v1 then (F_X2_linksAfter_b85 v1 v2 v3 M) else (if u0 = 0 then (F_X2_linksAfter_b89 v1 v2 v3 M) else (F_X2_linksAfter_b85 v1 v2 v3 M)))))
theorem t_X2_linksAfter_b58 {l : Launch} {E : bE} {Q : Int → Prop} {v1 : Int} {v2 : Int} {v3 : Int} {u0 : Int} {M : bM} (h : b_wp (F_X2_linksAfter_b58 v1 v2 v3 u0 M) (Sum.elim (A_X2_linksAfter_4 l E Q v1 M) (X_X2_linksAfter_4 l E Q v1 M))) : V l E xX2_linksAfter (0, 0) 58 [(0, bR 7), (1, bI v1), (2, bI v2), (3, bI v3)] [bI u0] M (b_pIp M Q) := by
  unfold F_X2_linksAfter_b58 at h
  obtain ⟨g3, h⟩ := b_wp_g h
  refine v_istore (i := 4) (ls' := [(4, bI _), (0, bR _), (1, bI _), (2, bI _), (3, bI _)]) (by decide) dX2_linksAfter_58 rfl ?_
  refine v_aload_n (f := 0) 1 rfl dX2_linksAfter_60 ?_
  refine v_getR (kf := 11) (kz := 11) rfl kd_7 rfl ⟨by decide, by decide⟩ rfl wf_2_26 dX2_linksAfter_61 ?_
  refine v_iload_n (f := 3) 4 rfl dX2_linksAfter_64 ?_
  refine v_iaload kd_134 g3 (by decide) dX2_linksAfter_65 ?_
  refine v_iconst ⟨by decide, by decide⟩ dX2_linksAfter_66 ?_
  refine v_icmp_eq (tgt := 89) dX2_linksAfter_67 (by decide) (fun c4 => ?_) (fun c4 => ?_)
  · replace h := b_wp_t c4 h
    refine v_sub (ls2 := [(0, bR _), (1, bI _), (2, bI _), (3, bI _)]) [1, 2, 3, 4] rfl ?_
    exact t_X2_linksAfter_b89 h
  · replace h := b_wp_f c4 h
    obtain ⟨g8, h⟩ := b_wp_g h
    refine v_aload_n (f := 0) 1 rfl dX2_linksAfter_70 ?_
    refine v_getR (kf := 11) (kz := 11) rfl kd_7 rfl ⟨by decide, by decide⟩ rfl wf_2_26 dX2_linksAfter_71 ?_
    refine v_iload_n (f := 3) 4 rfl dX2_linksAfter_74 ?_
    refine v_iaload kd_134 g8 (by decide) dX2_linksAfter_75 ?_
    refine v_iload_n (f := 1) 2 rfl dX2_linksAfter_76 ?_
    refine v_icmp_eq (tgt := 85) dX2_linksAfter_77 (by decide) (fun c9 => ?_) (fun c9 => ?_)
    · replace h := b_wp_t c9 h
      refine v_sub (ls2 := [(0, bR _), (1, bI _), (2, bI _), (3, bI _)]) [1, 2, 3, 4] rfl ?_
      exact t_X2_linksAfter_b85 h
    · replace h := b_wp_f c9 h
      refine v_iload (i := 4) 0 rfl dX2_linksAfter_80 ?_
      refine v_if_eq (tgt := 89) dX2_linksAfter_82 (by decide) (fun c10 => ?_) (fun c10 => ?_)
      · replace h := b_wp_t c10 h
        refine v_sub (ls2 := [(0, bR _), (1, bI _), (2, bI _), (3, bI _)]) [1, 2, 3, 4] rfl ?_
        exact t_X2_linksAfter_b89 h
      · replace h := b_wp_f c10 h
        refine v_sub (ls2 := [(0, bR _), (1, bI _), (2, bI _), (3, bI _)]) [1, 2, 3, 4] rfl ?_
        exact t_X2_linksAfter_b85 h
noncomputable def F_X2_linksAfter_b57 (v1 : Int) (v2 : Int) (v3 : Int) (M : bM) : Option ((Int × Int) ⊕ (Int)) :=
  F_X2_linksAfter_b58 v1 v2 v3 0 M
theorem t_X2_linksAfter_b57 {l : Launch} {E : bE} {Q : Int → Prop} {v1 : Int} {v2 : Int} {v3 : Int} {M : bM} (h : b_wp (F_X2_linksAfter_b57 v1 v2 v3 M) (Sum.elim (A_X2_linksAfter_4 l E Q v1 M) (X_X2_linksAfter_4 l E Q v1 M))) : V l E xX2_linksAfter (0, 0) 57 [(0, bR 7), (1, bI v1), (2, bI v2), (3, bI v3)] [] M (b_pIp M Q) := by
  unfold F_X2_linksAfter_b57 at h
  refine v_iconst ⟨by decide, by decide⟩ dX2_linksAfter_57 ?_
  exact t_X2_linksAfter_b58 h
noncomputable def F_X2_linksAfter_s4 (v1 : Int) (v2 : Int) (v3 : Int) (M : bM) : Option ((Int × Int) ⊕ (Int)) :=
  if (M 7 6) ≤ v3 then (some (.inr (v2))) else (if (M 7 3) = 0 then (F_X2_linksAfter_b57 v1 v2 v3 M) else (b_g (0 ≤ v3 ∧ v3 < 30) (b_bind (F_X8_isDeadBy v1 (M 132 v3) M) (fun x12 => if x12 = 0 then (F_X2_linksAfter_b57 v1 v2 v3 M) else (b_g (0 ≤ v3 ∧ v3 < 30) (b_bind (F_X8_isChild v1 (M 134 v3) M) (fun x15 => if x15 = 0 then (F_X2_linksAfter_b57 v1 v2 v3 M) else (F_X2_linksAfter_b58 v1 v2 v3 1 M))))))))
theorem t_X2_linksAfter_s4 {l : Launch} {E : bE} {Q : Int → Prop} {v1 : Int} {v2 : Int} {v3 : Int} {M : bM} (h : b_wp (F_X2_linksAfter_s4 v1 v2 v3 M) (Sum.elim (A_X2_linksAfter_4 l E Q v1 M) (X_X2_linksAfter_4 l E Q v1 M))) : V l E xX2_linksAfter (0, 0) 4 [(0, bR 7), (1, bI v1), (2, bI v2), (3, bI v3)] [] M (b_pIp M Q) := by
  unfold F_X2_linksAfter_s4 at h
  refine v_iload_n (f := 3) 3 rfl dX2_linksAfter_4 ?_
  refine v_aload_n (f := 0) 0 rfl dX2_linksAfter_5 ?_
  refine v_getI (kf := 6) (kz := 6) rfl kd_7 rfl ⟨by decide, by decide⟩ rfl wf_2_129 dX2_linksAfter_6 ?_
  refine v_icmp_ge (tgt := 113) dX2_linksAfter_9 (by decide) (fun c1 => ?_) (fun c1 => ?_)
  · replace h := b_wp_t c1 h
    refine v_sub (ls2 := [(2, bI _)]) [2] rfl ?_
    exact h
  · replace h := b_wp_f c1 h
    refine v_aload_n (f := 0) 0 rfl dX2_linksAfter_12 ?_
    refine v_getI (kf := 3) (kz := 3) rfl kd_7 rfl ⟨by decide, by decide⟩ rfl wf_2_112 dX2_linksAfter_13 ?_
    refine v_if_eq (tgt := 57) dX2_linksAfter_16 (by decide) (fun c2 => ?_) (fun c2 => ?_)
    · replace h := b_wp_t c2 h
      exact t_X2_linksAfter_b57 h
    · replace h := b_wp_f c2 h
      obtain ⟨g11, h⟩ := b_wp_g h
      refine v_aload_n (f := 0) 0 rfl dX2_linksAfter_19 ?_
      refine v_getR (kf := 0) (kz := 0) rfl kd_7 rfl ⟨by decide, by decide⟩ rfl wf_2_52 dX2_linksAfter_20 ?_
      refine v_iload_n (f := 1) 1 rfl dX2_linksAfter_23 ?_
      refine v_aload_n (f := 0) 0 rfl dX2_linksAfter_24 ?_
      refine v_getR (kf := 9) (kz := 9) rfl kd_7 rfl ⟨by decide, by decide⟩ rfl wf_2_20 dX2_linksAfter_25 ?_
      refine v_iload_n (f := 3) 3 rfl dX2_linksAfter_28 ?_
      refine v_iaload kd_132 g11 (by decide) dX2_linksAfter_29 ?_
      refine v_cVIp (nA := 2) (As := [bI _, bI _]) (ix := 164) (cf_X8_isDeadBy (b_wp_b h)) rfl kd_2 rfl rfl wc_X8_isDeadBy wm_2_164 wi_X8_isDeadBy ws_X8_isDeadBy wn_8 ⟨by decide, by decide, by decide⟩ rfl ⟨by decide, by decide⟩ ⟨by decide, by decide⟩ (Nat.le_of_ble_eq_true rfl) dX2_linksAfter_30 (fun x12 h => ?_)
      refine v_if_eq (tgt := 57) dX2_linksAfter_33 (by decide) (fun c13 => ?_) (fun c13 => ?_)
      · replace h := b_wp_t c13 h
        exact t_X2_linksAfter_b57 h
      · replace h := b_wp_f c13 h
        obtain ⟨g14, h⟩ := b_wp_g h
        refine v_aload_n (f := 0) 0 rfl dX2_linksAfter_36 ?_
        refine v_getR (kf := 0) (kz := 0) rfl kd_7 rfl ⟨by decide, by decide⟩ rfl wf_2_52 dX2_linksAfter_37 ?_
        refine v_iload_n (f := 1) 1 rfl dX2_linksAfter_40 ?_
        refine v_aload_n (f := 0) 0 rfl dX2_linksAfter_41 ?_
        refine v_getR (kf := 11) (kz := 11) rfl kd_7 rfl ⟨by decide, by decide⟩ rfl wf_2_26 dX2_linksAfter_42 ?_
        refine v_iload_n (f := 3) 3 rfl dX2_linksAfter_45 ?_
        refine v_iaload kd_134 g14 (by decide) dX2_linksAfter_46 ?_
        refine v_cVIp (nA := 2) (As := [bI _, bI _]) (ix := 168) (cf_X8_isChild (b_wp_b h)) rfl kd_2 rfl rfl wc_X8_isChild wm_2_168 wi_X8_isChild ws_X8_isChild wn_8 ⟨by decide, by decide, by decide⟩ rfl ⟨by decide, by decide⟩ ⟨by decide, by decide⟩ (Nat.le_of_ble_eq_true rfl) dX2_linksAfter_47 (fun x15 h => ?_)
        refine v_if_eq (tgt := 57) dX2_linksAfter_50 (by decide) (fun c16 => ?_) (fun c16 => ?_)
        · replace h := b_wp_t c16 h
          exact t_X2_linksAfter_b57 h
        · replace h := b_wp_f c16 h
          refine v_iconst ⟨by decide, by decide⟩ dX2_linksAfter_53 ?_
          refine v_goto (tgt := 58) dX2_linksAfter_54 (by decide) ?_
          exact t_X2_linksAfter_b58 h
theorem l_X2_linksAfter_4 {l : Launch} {E : bE} {Q : Int → Prop} {v1 : Int} {M : bM} {s : Int × Int} (h : b_wp (b_loop (fun t => F_X2_linksAfter_s4 v1 t.1 t.2 M) s) (X_X2_linksAfter_4 l E Q v1 M)) : A_X2_linksAfter_4 l E Q v1 M s := b_loop_wp (fun t h => t_X2_linksAfter_s4 h) s h
noncomputable def F_X2_linksAfter_b113 (v2 : Int) (M : bM) : Option (Int) :=
  some v2
theorem t_X2_linksAfter_b113 {l : Launch} {E : bE} {Q : Int → Prop} {v2 : Int} {M : bM} (h : b_wp (F_X2_linksAfter_b113 v2 M) (Q)) : V l E xX2_linksAfter (0, 0) 113 [(2, bI v2)] [] M (b_pIp M Q) := by
  unfold F_X2_linksAfter_b113 at h
  refine v_iload_n (f := 2) 0 rfl dX2_linksAfter_113 ?_
  refine v_ireturn rfl dX2_linksAfter_114 ⟨by decide, by decide⟩ ?_
  exact ⟨_, rfl, rfl, h⟩
noncomputable def F_X2_linksAfter (v1 : Int) (M : bM) : Option (Int) :=
  b_bind (b_loop (fun t => F_X2_linksAfter_s4 v1 t.1 t.2 M) (0, 0)) (fun t => F_X2_linksAfter_b113 t M)
theorem t_X2_linksAfter {l : Launch} {E : bE} {Q : Int → Prop} {v1 : Int} {M : bM} (h : b_wp (F_X2_linksAfter v1 M) (Q)) : V l E xX2_linksAfter (0, 0) 0 [(0, bR 7), (1, bI v1)] [] M (b_pIp M Q) := by
  unfold F_X2_linksAfter at h
  refine v_iconst ⟨by decide, by decide⟩ dX2_linksAfter_0 ?_
  refine v_istore_n (g := 2) (i := 2) (ls' := [(2, bI _), (0, bR _), (1, bI _)]) rfl (by decide) dX2_linksAfter_1 rfl ?_
  refine v_iconst ⟨by decide, by decide⟩ dX2_linksAfter_2 ?_
  refine v_istore_n (g := 3) (i := 3) (ls' := [(3, bI _), (2, bI _), (0, bR _), (1, bI _)]) rfl (by decide) dX2_linksAfter_3 rfl ?_
  refine v_sub (ls2 := [(0, bR _), (1, bI _), (2, bI _), (3, bI _)]) [2, 3, 1, 0] rfl ?_
  refine l_X2_linksAfter_4 (b_wp_m (fun t h => ?_) (b_wp_b h))
  show V l E xX2_linksAfter (0, 0) 113 [(2, bI _)] [] _ (b_pIp M Q)
  exact t_X2_linksAfter_b113 h
theorem cf_X2_linksAfter {l : Launch} {E : bE} {M : bM} {v1 : Int} {Q : Int → Prop} (h : b_wp (F_X2_linksAfter v1 M) Q) : b_C l E xX2_linksAfter yX2_linksAfter [bR 7, bI v1] M (b_pIp M Q) := b_met (by decide) ⟨rfl, rfl⟩ (Nat.le_of_ble_eq_true rfl) (fun _ _ => t_X2_linksAfter h)
abbrev xX2_endsWith : bX := ("BurntHall$Chains", prog_4_method_9_code, 2, (Option.some Jvm.ClassFile.FieldType.boolean), b_rm 3 0 0, 0, "endsWith")
abbrev yX2_endsWith : MethodName := ⟨"BurntHall$Chains", "endsWith", "(I)Z"⟩
theorem dX2_endsWith_0 : decode prog_4_method_9_code 0 = .ok (.iload_n 1, 1) := by decide +kernel
theorem dX2_endsWith_1 : decode prog_4_method_9_code 1 = .ok (.aload_n 0, 1) := by decide +kernel
theorem dX2_endsWith_2 : decode prog_4_method_9_code 2 = .ok (.getfield 121, 3) := by decide +kernel
theorem dX2_endsWith_5 : decode prog_4_method_9_code 5 = .ok (.if_icmp .eq 37, 3) := by decide +kernel
theorem dX2_endsWith_8 : decode prog_4_method_9_code 8 = .ok (.aload_n 0, 1) := by decide +kernel
theorem dX2_endsWith_9 : decode prog_4_method_9_code 9 = .ok (.getfield 112, 3) := by decide +kernel
theorem dX2_endsWith_12 : decode prog_4_method_9_code 12 = .ok (.ifCond .eq 34, 3) := by decide +kernel
theorem dX2_endsWith_15 : decode prog_4_method_9_code 15 = .ok (.aload_n 0, 1) := by decide +kernel
theorem dX2_endsWith_16 : decode prog_4_method_9_code 16 = .ok (.getfield 52, 3) := by decide +kernel
theorem dX2_endsWith_19 : decode prog_4_method_9_code 19 = .ok (.iload_n 1, 1) := by decide +kernel
theorem dX2_endsWith_20 : decode prog_4_method_9_code 20 = .ok (.invokevirtual 171, 3) := by decide +kernel
theorem dX2_endsWith_23 : decode prog_4_method_9_code 23 = .ok (.iconst (-1), 1) := by decide +kernel
theorem dX2_endsWith_24 : decode prog_4_method_9_code 24 = .ok (.if_icmp .eq 22, 3) := by decide +kernel
theorem dX2_endsWith_27 : decode prog_4_method_9_code 27 = .ok (.aload_n 0, 1) := by decide +kernel
theorem dX2_endsWith_28 : decode prog_4_method_9_code 28 = .ok (.getfield 52, 3) := by decide +kernel
theorem dX2_endsWith_31 : decode prog_4_method_9_code 31 = .ok (.iload_n 1, 1) := by decide +kernel
theorem dX2_endsWith_32 : decode prog_4_method_9_code 32 = .ok (.aload_n 0, 1) := by decide +kernel
theorem dX2_endsWith_33 : decode prog_4_method_9_code 33 = .ok (.getfield 121, 3) := by decide +kernel
theorem dX2_endsWith_36 : decode prog_4_method_9_code 36 = .ok (.invokevirtual 168, 3) := by decide +kernel
theorem dX2_endsWith_39 : decode prog_4_method_9_code 39 = .ok (.ifCond .eq 7, 3) := by decide +kernel
theorem dX2_endsWith_42 : decode prog_4_method_9_code 42 = .ok (.iconst 1, 1) := by decide +kernel
theorem dX2_endsWith_43 : decode prog_4_method_9_code 43 = .ok (.goto 4, 3) := by decide +kernel
theorem dX2_endsWith_46 : decode prog_4_method_9_code 46 = .ok (.iconst 0, 1) := by decide +kernel
theorem dX2_endsWith_47 : decode prog_4_method_9_code 47 = .ok (.ireturn, 1) := by decide +kernel
noncomputable def F_X2_endsWith (v1 : Int) (M : bM) : Option (Int) :=
  if v1 = (M 7 4) then (some 1) else (if (M 7 3) = 0 then (some 0) else (b_bind (F_X8_deathOf v1 M) (fun x3 => if x3 = (-1) then (some 0) else (b_bind (F_X8_isChild v1 (M 7 4) M) (fun x5 => if x5 = 0 then (some 0) else (some 1))))))
theorem t_X2_endsWith {l : Launch} {E : bE} {Q : Int → Prop} {v1 : Int} {M : bM} (h : b_wp (F_X2_endsWith v1 M) (Q)) : V l E xX2_endsWith (0, 0) 0 [(0, bR 7), (1, bI v1)] [] M (b_pIp M Q) := by
  unfold F_X2_endsWith at h
  refine v_iload_n (f := 1) 1 rfl dX2_endsWith_0 ?_
  refine v_aload_n (f := 0) 0 rfl dX2_endsWith_1 ?_
  refine v_getI (kf := 4) (kz := 4) rfl kd_7 rfl ⟨by decide, by decide⟩ rfl wf_2_121 dX2_endsWith_2 ?_
  refine v_icmp_eq (tgt := 42) dX2_endsWith_5 (by decide) (fun c1 => ?_) (fun c1 => ?_)
  · replace h := b_wp_t c1 h
    refine v_iconst ⟨by decide, by decide⟩ dX2_endsWith_42 ?_
    refine v_goto (tgt := 47) dX2_endsWith_43 (by decide) ?_
    refine v_zreturn rfl (Or.inr rfl) dX2_endsWith_47 ⟨by decide, by decide⟩ ?_
    exact ⟨_, rfl, rfl, h⟩
  · replace h := b_wp_f c1 h
    refine v_aload_n (f := 0) 0 rfl dX2_endsWith_8 ?_
    refine v_getI (kf := 3) (kz := 3) rfl kd_7 rfl ⟨by decide, by decide⟩ rfl wf_2_112 dX2_endsWith_9 ?_
    refine v_if_eq (tgt := 46) dX2_endsWith_12 (by decide) (fun c2 => ?_) (fun c2 => ?_)
    · replace h := b_wp_t c2 h
      refine v_iconst ⟨by decide, by decide⟩ dX2_endsWith_46 ?_
      refine v_zreturn rfl (Or.inl rfl) dX2_endsWith_47 ⟨by decide, by decide⟩ ?_
      exact ⟨_, rfl, rfl, h⟩
    · replace h := b_wp_f c2 h
      refine v_aload_n (f := 0) 0 rfl dX2_endsWith_15 ?_
      refine v_getR (kf := 0) (kz := 0) rfl kd_7 rfl ⟨by decide, by decide⟩ rfl wf_2_52 dX2_endsWith_16 ?_
      refine v_iload_n (f := 1) 1 rfl dX2_endsWith_19 ?_
      refine v_cVIp (nA := 1) (As := [bI _]) (ix := 171) (cf_X8_deathOf (b_wp_b h)) rfl kd_2 rfl rfl wc_X8_deathOf wm_2_171 wi_X8_deathOf ws_X8_deathOf wn_8 ⟨by decide, by decide, by decide⟩ rfl ⟨by decide, by decide⟩ ⟨by decide, by decide⟩ (Nat.le_of_ble_eq_true rfl) dX2_endsWith_20 (fun x3 h => ?_)
      refine v_iconst ⟨by decide, by decide⟩ dX2_endsWith_23 ?_
      refine v_icmp_eq (tgt := 46) dX2_endsWith_24 (by decide) (fun c4 => ?_) (fun c4 => ?_)
      · replace h := b_wp_t c4 h
        refine v_iconst ⟨by decide, by decide⟩ dX2_endsWith_46 ?_
        refine v_zreturn rfl (Or.inl rfl) dX2_endsWith_47 ⟨by decide, by decide⟩ ?_
        exact ⟨_, rfl, rfl, h⟩
      · replace h := b_wp_f c4 h
        refine v_aload_n (f := 0) 0 rfl dX2_endsWith_27 ?_
        refine v_getR (kf := 0) (kz := 0) rfl kd_7 rfl ⟨by decide, by decide⟩ rfl wf_2_52 dX2_endsWith_28 ?_
        refine v_iload_n (f := 1) 1 rfl dX2_endsWith_31 ?_
        refine v_aload_n (f := 0) 0 rfl dX2_endsWith_32 ?_
        refine v_getI (kf := 4) (kz := 4) rfl kd_7 rfl ⟨by decide, by decide⟩ rfl wf_2_121 dX2_endsWith_33 ?_
        refine v_cVIp (nA := 2) (As := [bI _, bI _]) (ix := 168) (cf_X8_isChild (b_wp_b h)) rfl kd_2 rfl rfl wc_X8_isChild wm_2_168 wi_X8_isChild ws_X8_isChild wn_8 ⟨by decide, by decide, by decide⟩ rfl ⟨by decide, by decide⟩ ⟨by decide, by decide⟩ (Nat.le_of_ble_eq_true rfl) dX2_endsWith_36 (fun x5 h => ?_)
        refine v_if_eq (tgt := 46) dX2_endsWith_39 (by decide) (fun c6 => ?_) (fun c6 => ?_)
        · replace h := b_wp_t c6 h
          refine v_iconst ⟨by decide, by decide⟩ dX2_endsWith_46 ?_
          refine v_zreturn rfl (Or.inl rfl) dX2_endsWith_47 ⟨by decide, by decide⟩ ?_
          exact ⟨_, rfl, rfl, h⟩
        · replace h := b_wp_f c6 h
          refine v_iconst ⟨by decide, by decide⟩ dX2_endsWith_42 ?_
          refine v_goto (tgt := 47) dX2_endsWith_43 (by decide) ?_
          refine v_zreturn rfl (Or.inr rfl) dX2_endsWith_47 ⟨by decide, by decide⟩ ?_
          exact ⟨_, rfl, rfl, h⟩
theorem cf_X2_endsWith {l : Launch} {E : bE} {M : bM} {v1 : Int} {Q : Int → Prop} (h : b_wp (F_X2_endsWith v1 M) Q) : b_C l E xX2_endsWith yX2_endsWith [bR 7, bI v1] M (b_pIp M Q) := b_met (by decide) ⟨rfl, rfl⟩ (Nat.le_of_ble_eq_true rfl) (fun _ _ => t_X2_endsWith h)
abbrev xX2_gather : bX := ("BurntHall$Chains", prog_4_method_6_code, 6, (Option.none : Option Jvm.ClassFile.FieldType), b_rm 4 0 0, 0, "gather")
abbrev yX2_gather : MethodName := ⟨"BurntHall$Chains", "gather", "(II)V"⟩
theorem dX2_gather_0 : decode prog_4_method_6_code 0 = .ok (.aload_n 0, 1) := by decide +kernel
theorem dX2_gather_1 : decode prog_4_method_6_code 1 = .ok (.aload_n 0, 1) := by decide +kernel
theorem dX2_gather_2 : decode prog_4_method_6_code 2 = .ok (.getfield 60, 3) := by decide +kernel
theorem dX2_gather_5 : decode prog_4_method_6_code 5 = .ok (.invokevirtual 103, 3) := by decide +kernel
theorem dX2_gather_8 : decode prog_4_method_6_code 8 = .ok (.bipush 8, 2) := by decide +kernel
theorem dX2_gather_10 : decode prog_4_method_6_code 10 = .ok (.invokevirtual 109, 3) := by decide +kernel
theorem dX2_gather_13 : decode prog_4_method_6_code 13 = .ok (.iconst 1, 1) := by decide +kernel
theorem dX2_gather_14 : decode prog_4_method_6_code 14 = .ok (.if_icmp .ne 7, 3) := by decide +kernel
theorem dX2_gather_17 : decode prog_4_method_6_code 17 = .ok (.iconst 1, 1) := by decide +kernel
theorem dX2_gather_18 : decode prog_4_method_6_code 18 = .ok (.goto 4, 3) := by decide +kernel
theorem dX2_gather_21 : decode prog_4_method_6_code 21 = .ok (.iconst 0, 1) := by decide +kernel
theorem dX2_gather_22 : decode prog_4_method_6_code 22 = .ok (.putfield 112, 3) := by decide +kernel
theorem dX2_gather_25 : decode prog_4_method_6_code 25 = .ok (.aload_n 0, 1) := by decide +kernel
theorem dX2_gather_26 : decode prog_4_method_6_code 26 = .ok (.aload_n 0, 1) := by decide +kernel
theorem dX2_gather_27 : decode prog_4_method_6_code 27 = .ok (.getfield 52, 3) := by decide +kernel
theorem dX2_gather_30 : decode prog_4_method_6_code 30 = .ok (.iload_n 2, 1) := by decide +kernel
theorem dX2_gather_31 : decode prog_4_method_6_code 31 = .ok (.invokevirtual 116, 3) := by decide +kernel
theorem dX2_gather_34 : decode prog_4_method_6_code 34 = .ok (.putfield 121, 3) := by decide +kernel
theorem dX2_gather_37 : decode prog_4_method_6_code 37 = .ok (.aload_n 0, 1) := by decide +kernel
theorem dX2_gather_38 : decode prog_4_method_6_code 38 = .ok (.getfield 56, 3) := by decide +kernel
theorem dX2_gather_41 : decode prog_4_method_6_code 41 = .ok (.getfield 125, 3) := by decide +kernel
theorem dX2_gather_44 : decode prog_4_method_6_code 44 = .ok (.iload_n 1, 1) := by decide +kernel
theorem dX2_gather_45 : decode prog_4_method_6_code 45 = .ok (.laload, 1) := by decide +kernel
theorem dX2_gather_46 : decode prog_4_method_6_code 46 = .ok (.lstore_n 3, 1) := by decide +kernel
theorem dX2_gather_47 : decode prog_4_method_6_code 47 = .ok (.aload_n 0, 1) := by decide +kernel
theorem dX2_gather_48 : decode prog_4_method_6_code 48 = .ok (.iconst 0, 1) := by decide +kernel
theorem dX2_gather_49 : decode prog_4_method_6_code 49 = .ok (.putfield 129, 3) := by decide +kernel
theorem dX2_gather_52 : decode prog_4_method_6_code 52 = .ok (.aload_n 0, 1) := by decide +kernel
theorem dX2_gather_53 : decode prog_4_method_6_code 53 = .ok (.iconst 0, 1) := by decide +kernel
theorem dX2_gather_54 : decode prog_4_method_6_code 54 = .ok (.putfield 132, 3) := by decide +kernel
theorem dX2_gather_57 : decode prog_4_method_6_code 57 = .ok (.iconst 0, 1) := by decide +kernel
theorem dX2_gather_58 : decode prog_4_method_6_code 58 = .ok (.istore 5, 2) := by decide +kernel
theorem dX2_gather_60 : decode prog_4_method_6_code 60 = .ok (.iload 5, 2) := by decide +kernel
theorem dX2_gather_62 : decode prog_4_method_6_code 62 = .ok (.aload_n 0, 1) := by decide +kernel
theorem dX2_gather_63 : decode prog_4_method_6_code 63 = .ok (.getfield 60, 3) := by decide +kernel
theorem dX2_gather_66 : decode prog_4_method_6_code 66 = .ok (.getfield 135, 3) := by decide +kernel
theorem dX2_gather_69 : decode prog_4_method_6_code 69 = .ok (.if_icmp .ge 50, 3) := by decide +kernel
theorem dX2_gather_72 : decode prog_4_method_6_code 72 = .ok (.aload_n 0, 1) := by decide +kernel
theorem dX2_gather_73 : decode prog_4_method_6_code 73 = .ok (.getfield 56, 3) := by decide +kernel
theorem dX2_gather_76 : decode prog_4_method_6_code 76 = .ok (.aload_n 0, 1) := by decide +kernel
theorem dX2_gather_77 : decode prog_4_method_6_code 77 = .ok (.getfield 60, 3) := by decide +kernel
theorem dX2_gather_80 : decode prog_4_method_6_code 80 = .ok (.iload 5, 2) := by decide +kernel
theorem dX2_gather_82 : decode prog_4_method_6_code 82 = .ok (.iconst 2, 1) := by decide +kernel
theorem dX2_gather_83 : decode prog_4_method_6_code 83 = .ok (.invokevirtual 138, 3) := by decide +kernel
theorem dX2_gather_86 : decode prog_4_method_6_code 86 = .ok (.lload_n 3, 1) := by decide +kernel
theorem dX2_gather_87 : decode prog_4_method_6_code 87 = .ok (.invokevirtual 142, 3) := by decide +kernel
theorem dX2_gather_90 : decode prog_4_method_6_code 90 = .ok (.ifCond .eq 23, 3) := by decide +kernel
theorem dX2_gather_93 : decode prog_4_method_6_code 93 = .ok (.aload_n 0, 1) := by decide +kernel
theorem dX2_gather_94 : decode prog_4_method_6_code 94 = .ok (.getfield 60, 3) := by decide +kernel
theorem dX2_gather_97 : decode prog_4_method_6_code 97 = .ok (.iload 5, 2) := by decide +kernel
theorem dX2_gather_99 : decode prog_4_method_6_code 99 = .ok (.iconst 1, 1) := by decide +kernel
theorem dX2_gather_100 : decode prog_4_method_6_code 100 = .ok (.invokevirtual 138, 3) := by decide +kernel
theorem dX2_gather_103 : decode prog_4_method_6_code 103 = .ok (.iconst (-1), 1) := by decide +kernel
theorem dX2_gather_104 : decode prog_4_method_6_code 104 = .ok (.if_icmp .eq 9, 3) := by decide +kernel
theorem dX2_gather_107 : decode prog_4_method_6_code 107 = .ok (.aload_n 0, 1) := by decide +kernel
theorem dX2_gather_108 : decode prog_4_method_6_code 108 = .ok (.iload 5, 2) := by decide +kernel
theorem dX2_gather_110 : decode prog_4_method_6_code 110 = .ok (.invokevirtual 146, 3) := by decide +kernel
theorem dX2_gather_113 : decode prog_4_method_6_code 113 = .ok (.iinc 5 1, 3) := by decide +kernel
theorem dX2_gather_116 : decode prog_4_method_6_code 116 = .ok (.goto (-56), 3) := by decide +kernel
theorem dX2_gather_119 : decode prog_4_method_6_code 119 = .ok (.iconst 0, 1) := by decide +kernel
theorem dX2_gather_120 : decode prog_4_method_6_code 120 = .ok (.istore 5, 2) := by decide +kernel
theorem dX2_gather_122 : decode prog_4_method_6_code 122 = .ok (.iload 5, 2) := by decide +kernel
theorem dX2_gather_124 : decode prog_4_method_6_code 124 = .ok (.aload_n 0, 1) := by decide +kernel
theorem dX2_gather_125 : decode prog_4_method_6_code 125 = .ok (.getfield 129, 3) := by decide +kernel
theorem dX2_gather_128 : decode prog_4_method_6_code 128 = .ok (.if_icmp .ge 58, 3) := by decide +kernel
theorem dX2_gather_131 : decode prog_4_method_6_code 131 = .ok (.aload_n 0, 1) := by decide +kernel
theorem dX2_gather_132 : decode prog_4_method_6_code 132 = .ok (.getfield 34, 3) := by decide +kernel
theorem dX2_gather_135 : decode prog_4_method_6_code 135 = .ok (.iload 5, 2) := by decide +kernel
theorem dX2_gather_137 : decode prog_4_method_6_code 137 = .ok (.aload_n 0, 1) := by decide +kernel
theorem dX2_gather_138 : decode prog_4_method_6_code 138 = .ok (.aload_n 0, 1) := by decide +kernel
theorem dX2_gather_139 : decode prog_4_method_6_code 139 = .ok (.getfield 29, 3) := by decide +kernel
theorem dX2_gather_142 : decode prog_4_method_6_code 142 = .ok (.iload 5, 2) := by decide +kernel
theorem dX2_gather_144 : decode prog_4_method_6_code 144 = .ok (.iaload, 1) := by decide +kernel
theorem dX2_gather_145 : decode prog_4_method_6_code 145 = .ok (.invokevirtual 149, 3) := by decide +kernel
theorem dX2_gather_148 : decode prog_4_method_6_code 148 = .ok (.iastore, 1) := by decide +kernel
theorem dX2_gather_149 : decode prog_4_method_6_code 149 = .ok (.aload_n 0, 1) := by decide +kernel
theorem dX2_gather_150 : decode prog_4_method_6_code 150 = .ok (.dup, 1) := by decide +kernel
theorem dX2_gather_151 : decode prog_4_method_6_code 151 = .ok (.getfield 132, 3) := by decide +kernel
theorem dX2_gather_154 : decode prog_4_method_6_code 154 = .ok (.aload_n 0, 1) := by decide +kernel
theorem dX2_gather_155 : decode prog_4_method_6_code 155 = .ok (.aload_n 0, 1) := by decide +kernel
theorem dX2_gather_156 : decode prog_4_method_6_code 156 = .ok (.getfield 29, 3) := by decide +kernel
theorem dX2_gather_159 : decode prog_4_method_6_code 159 = .ok (.iload 5, 2) := by decide +kernel
theorem dX2_gather_161 : decode prog_4_method_6_code 161 = .ok (.iaload, 1) := by decide +kernel
theorem dX2_gather_162 : decode prog_4_method_6_code 162 = .ok (.invokevirtual 152, 3) := by decide +kernel
theorem dX2_gather_165 : decode prog_4_method_6_code 165 = .ok (.ifCond .eq 10, 3) := by decide +kernel
theorem dX2_gather_168 : decode prog_4_method_6_code 168 = .ok (.iconst 1, 1) := by decide +kernel
theorem dX2_gather_169 : decode prog_4_method_6_code 169 = .ok (.iload 5, 2) := by decide +kernel
theorem dX2_gather_171 : decode prog_4_method_6_code 171 = .ok (.ishl, 1) := by decide +kernel
theorem dX2_gather_172 : decode prog_4_method_6_code 172 = .ok (.goto 4, 3) := by decide +kernel
theorem dX2_gather_175 : decode prog_4_method_6_code 175 = .ok (.iconst 0, 1) := by decide +kernel
theorem dX2_gather_176 : decode prog_4_method_6_code 176 = .ok (.ior, 1) := by decide +kernel
theorem dX2_gather_177 : decode prog_4_method_6_code 177 = .ok (.putfield 132, 3) := by decide +kernel
theorem dX2_gather_180 : decode prog_4_method_6_code 180 = .ok (.iinc 5 1, 3) := by decide +kernel
theorem dX2_gather_183 : decode prog_4_method_6_code 183 = .ok (.goto (-61), 3) := by decide +kernel
theorem dX2_gather_186 : decode prog_4_method_6_code 186 = .ok (.aload_n 0, 1) := by decide +kernel
theorem dX2_gather_187 : decode prog_4_method_6_code 187 = .ok (.lconst 0, 1) := by decide +kernel
theorem dX2_gather_188 : decode prog_4_method_6_code 188 = .ok (.putfield 156, 3) := by decide +kernel
theorem dX2_gather_191 : decode prog_4_method_6_code 191 = .ok (.iconst 0, 1) := by decide +kernel
theorem dX2_gather_192 : decode prog_4_method_6_code 192 = .ok (.istore 5, 2) := by decide +kernel
theorem dX2_gather_194 : decode prog_4_method_6_code 194 = .ok (.iload 5, 2) := by decide +kernel
theorem dX2_gather_196 : decode prog_4_method_6_code 196 = .ok (.aload_n 0, 1) := by decide +kernel
theorem dX2_gather_197 : decode prog_4_method_6_code 197 = .ok (.getfield 56, 3) := by decide +kernel
theorem dX2_gather_200 : decode prog_4_method_6_code 200 = .ok (.getfield 160, 3) := by decide +kernel
theorem dX2_gather_203 : decode prog_4_method_6_code 203 = .ok (.if_icmp .ge 80, 3) := by decide +kernel
theorem dX2_gather_206 : decode prog_4_method_6_code 206 = .ok (.aload_n 0, 1) := by decide +kernel
theorem dX2_gather_207 : decode prog_4_method_6_code 207 = .ok (.getfield 56, 3) := by decide +kernel
theorem dX2_gather_210 : decode prog_4_method_6_code 210 = .ok (.iload 5, 2) := by decide +kernel
theorem dX2_gather_212 : decode prog_4_method_6_code 212 = .ok (.lload_n 3, 1) := by decide +kernel
theorem dX2_gather_213 : decode prog_4_method_6_code 213 = .ok (.invokevirtual 142, 3) := by decide +kernel
theorem dX2_gather_216 : decode prog_4_method_6_code 216 = .ok (.ifCond .eq 61, 3) := by decide +kernel
theorem dX2_gather_219 : decode prog_4_method_6_code 219 = .ok (.aload_n 0, 1) := by decide +kernel
theorem dX2_gather_220 : decode prog_4_method_6_code 220 = .ok (.getfield 56, 3) := by decide +kernel
theorem dX2_gather_223 : decode prog_4_method_6_code 223 = .ok (.getfield 161, 3) := by decide +kernel
theorem dX2_gather_226 : decode prog_4_method_6_code 226 = .ok (.iload 5, 2) := by decide +kernel
theorem dX2_gather_228 : decode prog_4_method_6_code 228 = .ok (.iaload, 1) := by decide +kernel
theorem dX2_gather_229 : decode prog_4_method_6_code 229 = .ok (.iconst (-1), 1) := by decide +kernel
theorem dX2_gather_230 : decode prog_4_method_6_code 230 = .ok (.if_icmp .eq 47, 3) := by decide +kernel
theorem dX2_gather_233 : decode prog_4_method_6_code 233 = .ok (.aload_n 0, 1) := by decide +kernel
theorem dX2_gather_234 : decode prog_4_method_6_code 234 = .ok (.dup, 1) := by decide +kernel
theorem dX2_gather_235 : decode prog_4_method_6_code 235 = .ok (.getfield 156, 3) := by decide +kernel
theorem dX2_gather_238 : decode prog_4_method_6_code 238 = .ok (.lconst 1, 1) := by decide +kernel
theorem dX2_gather_239 : decode prog_4_method_6_code 239 = .ok (.iload 5, 2) := by decide +kernel
theorem dX2_gather_241 : decode prog_4_method_6_code 241 = .ok (.lshl, 1) := by decide +kernel
theorem dX2_gather_242 : decode prog_4_method_6_code 242 = .ok (.lor, 1) := by decide +kernel
theorem dX2_gather_243 : decode prog_4_method_6_code 243 = .ok (.putfield 156, 3) := by decide +kernel
theorem dX2_gather_246 : decode prog_4_method_6_code 246 = .ok (.aload_n 0, 1) := by decide +kernel
theorem dX2_gather_247 : decode prog_4_method_6_code 247 = .ok (.getfield 34, 3) := by decide +kernel
theorem dX2_gather_250 : decode prog_4_method_6_code 250 = .ok (.bipush 30, 2) := by decide +kernel
theorem dX2_gather_252 : decode prog_4_method_6_code 252 = .ok (.iload 5, 2) := by decide +kernel
theorem dX2_gather_254 : decode prog_4_method_6_code 254 = .ok (.iadd, 1) := by decide +kernel
theorem dX2_gather_255 : decode prog_4_method_6_code 255 = .ok (.aload_n 0, 1) := by decide +kernel
theorem dX2_gather_256 : decode prog_4_method_6_code 256 = .ok (.aload_n 0, 1) := by decide +kernel
theorem dX2_gather_257 : decode prog_4_method_6_code 257 = .ok (.getfield 52, 3) := by decide +kernel
theorem dX2_gather_260 : decode prog_4_method_6_code 260 = .ok (.aload_n 0, 1) := by decide +kernel
theorem dX2_gather_261 : decode prog_4_method_6_code 261 = .ok (.getfield 56, 3) := by decide +kernel
theorem dX2_gather_264 : decode prog_4_method_6_code 264 = .ok (.getfield 161, 3) := by decide +kernel
theorem dX2_gather_267 : decode prog_4_method_6_code 267 = .ok (.iload 5, 2) := by decide +kernel
theorem dX2_gather_269 : decode prog_4_method_6_code 269 = .ok (.iaload, 1) := by decide +kernel
theorem dX2_gather_270 : decode prog_4_method_6_code 270 = .ok (.invokevirtual 116, 3) := by decide +kernel
theorem dX2_gather_273 : decode prog_4_method_6_code 273 = .ok (.invokevirtual 149, 3) := by decide +kernel
theorem dX2_gather_276 : decode prog_4_method_6_code 276 = .ok (.iastore, 1) := by decide +kernel
theorem dX2_gather_277 : decode prog_4_method_6_code 277 = .ok (.iinc 5 1, 3) := by decide +kernel
theorem dX2_gather_280 : decode prog_4_method_6_code 280 = .ok (.goto (-86), 3) := by decide +kernel
theorem dX2_gather_283 : decode prog_4_method_6_code 283 = .ok (.return_, 1) := by decide +kernel
abbrev A_X2_gather_60 (l : Launch) (E : bE) (Q : bM → Prop) (v3 : Int) : (Int × bM) → Prop := (fun t : Int × bM => V l E xX2_gather (0, 0) 60 [(0, bR 7), (3, bJ v3), (5, bI (t.1))] [] t.2 (b_pV Q))
abbrev X_X2_gather_60 (l : Launch) (E : bE) (Q : bM → Prop) (v3 : Int) : (bM) → Prop := (fun t : bM => V l E xX2_gather (0, 0) 119 [(0, bR 7), (3, bJ v3)] [] t (b_pV Q))
noncomputable def F_X2_gather_s60 (v3 : Int) (v5 : Int) (M : bM) : Option ((Int × bM) ⊕ (bM)) :=
  if (M 6 0) ≤ v5 then (some (.inr (M))) else (b_bind (F_X4_fact v5 2 M) (fun x14 => b_bind (F_X5_isAmong x14 v3 M) (fun x15 => if x15 = 0 then (b_g (b_i32 (v5 + 1)) (some (.inl ((v5 + 1), M)))) else (b_bind (F_X4_fact v5 1 M) (fun x18 => if x18 = (-1) then (b_g (b_i32 (v5 + 1)) (some (.inl ((v5 + 1), M)))) else (b_bind (F_X2_addLink v5 M) (fun M21 => b_g (b_i32 (v5 + 1)) (some (.inl ((v5 + 1), M21))))))))))
theorem t_X2_gather_s60 {l : Launch} {E : bE} {Q : bM → Prop} {v3 : Int} {v5 : Int} {M : bM} (h : b_wp (F_X2_gather_s60 v3 v5 M) (Sum.elim (A_X2_gather_60 l E Q v3) (X_X2_gather_60 l E Q v3))) : V l E xX2_gather (0, 0) 60 [(0, bR 7), (3, bJ v3), (5, bI v5)] [] M (b_pV Q) := by
  unfold F_X2_gather_s60 at h
  refine v_iload (i := 5) 2 rfl dX2_gather_60 ?_
  refine v_aload_n (f := 0) 0 rfl dX2_gather_62 ?_
  refine v_getR (kf := 2) (kz := 2) rfl kd_7 rfl ⟨by decide, by decide⟩ rfl wf_2_60 dX2_gather_63 ?_
  refine v_getI (kf := 0) (kz := 0) rfl kd_6 rfl ⟨by decide, by decide⟩ rfl wf_2_135 dX2_gather_66 ?_
  refine v_icmp_ge (tgt := 119) dX2_gather_69 (by decide) (fun c13 => ?_) (fun c13 => ?_)
  · replace h := b_wp_t c13 h
    refine v_sub (ls2 := [(0, bR _), (3, bJ _)]) [0, 1] rfl ?_
    exact h
  · replace h := b_wp_f c13 h
    refine v_aload_n (f := 0) 0 rfl dX2_gather_72 ?_
    refine v_getR (kf := 1) (kz := 1) rfl kd_7 rfl ⟨by decide, by decide⟩ rfl wf_2_56 dX2_gather_73 ?_
    refine v_aload_n (f := 0) 0 rfl dX2_gather_76 ?_
    refine v_getR (kf := 2) (kz := 2) rfl kd_7 rfl ⟨by decide, by decide⟩ rfl wf_2_60 dX2_gather_77 ?_
    refine v_iload (i := 5) 2 rfl dX2_gather_80 ?_
    refine v_iconst ⟨by decide, by decide⟩ dX2_gather_82 ?_
    refine v_cVIp (nA := 2) (As := [bI _, bI _]) (ix := 138) (cf_X4_fact (b_wp_b h)) rfl kd_6 rfl rfl wc_X4_fact wm_2_138 wi_X4_fact ws_X4_fact wn_4 ⟨by decide, by decide, by decide⟩ rfl ⟨by decide, by decide⟩ ⟨by decide, by decide⟩ (Nat.le_of_ble_eq_true rfl) dX2_gather_83 (fun x14 h => ?_)
    refine v_lload_n (f := 3) 1 rfl dX2_gather_86 ?_
    refine v_cVIp (nA := 2) (As := [bI _, bJ _]) (ix := 142) (cf_X5_isAmong (b_wp_b h)) rfl kd_3 rfl rfl wc_X5_isAmong wm_2_142 wi_X5_isAmong ws_X5_isAmong wn_5 ⟨by decide, by decide, by decide⟩ rfl ⟨by decide, by decide⟩ ⟨by decide, by decide⟩ (Nat.le_of_ble_eq_true rfl) dX2_gather_87 (fun x15 h => ?_)
    refine v_if_eq (tgt := 113) dX2_gather_90 (by decide) (fun c16 => ?_) (fun c16 => ?_)
    · replace h := b_wp_t c16 h
      obtain ⟨g17, h⟩ := b_wp_g h
      refine v_iincN (ls' := [(5, bI _), (0, bR _), (3, bJ _)]) 2 rfl (by decide) g17 dX2_gather_113 rfl ?_
      refine v_goto (tgt := 60) dX2_gather_116 (by decide) ?_
      refine v_sub (ls2 := [(0, bR _), (3, bJ _), (5, bI _)]) [1, 2, 0] rfl ?_
      exact h
    · replace h := b_wp_f c16 h
      refine v_aload_n (f := 0) 0 rfl dX2_gather_93 ?_
      refine v_getR (kf := 2) (kz := 2) rfl kd_7 rfl ⟨by decide, by decide⟩ rfl wf_2_60 dX2_gather_94 ?_
      refine v_iload (i := 5) 2 rfl dX2_gather_97 ?_
      refine v_iconst ⟨by decide, by decide⟩ dX2_gather_99 ?_
      refine v_cVIp (nA := 2) (As := [bI _, bI _]) (ix := 138) (cf_X4_fact (b_wp_b h)) rfl kd_6 rfl rfl wc_X4_fact wm_2_138 wi_X4_fact ws_X4_fact wn_4 ⟨by decide, by decide, by decide⟩ rfl ⟨by decide, by decide⟩ ⟨by decide, by decide⟩ (Nat.le_of_ble_eq_true rfl) dX2_gather_100 (fun x18 h => ?_)
      refine v_iconst ⟨by decide, by decide⟩ dX2_gather_103 ?_
      refine v_icmp_eq (tgt := 113) dX2_gather_104 (by decide) (fun c19 => ?_) (fun c19 => ?_)
      · replace h := b_wp_t c19 h
        obtain ⟨g20, h⟩ := b_wp_g h
        refine v_iincN (ls' := [(5, bI _), (0, bR _), (3, bJ _)]) 2 rfl (by decide) g20 dX2_gather_113 rfl ?_
        refine v_goto (tgt := 60) dX2_gather_116 (by decide) ?_
        refine v_sub (ls2 := [(0, bR _), (3, bJ _), (5, bI _)]) [1, 2, 0] rfl ?_
        exact h
      · replace h := b_wp_f c19 h
        refine v_aload_n (f := 0) 0 rfl dX2_gather_107 ?_
        refine v_iload (i := 5) 2 rfl dX2_gather_108 ?_
        refine v_cVV (nA := 1) (As := [bI _]) (ix := 146) (cf_X2_addLink (b_wp_b h)) rfl kd_7 rfl rfl wc_X2_addLink wm_2_146 wi_X2_addLink ws_X2_addLink wn_2 ⟨by decide, by decide, by decide⟩ rfl ⟨by decide, by decide⟩ ⟨by decide, by decide⟩ (Nat.le_of_ble_eq_true rfl) dX2_gather_110 (fun M21 h => ?_)
        obtain ⟨g22, h⟩ := b_wp_g h
        refine v_iincN (ls' := [(5, bI _), (0, bR _), (3, bJ _)]) 2 rfl (by decide) g22 dX2_gather_113 rfl ?_
        refine v_goto (tgt := 60) dX2_gather_116 (by decide) ?_
        refine v_sub (ls2 := [(0, bR _), (3, bJ _), (5, bI _)]) [1, 2, 0] rfl ?_
        exact h
theorem l_X2_gather_60 {l : Launch} {E : bE} {Q : bM → Prop} {v3 : Int} {s : Int × bM} (h : b_wp (b_loop (fun t => F_X2_gather_s60 v3 t.1 t.2) s) (X_X2_gather_60 l E Q v3)) : A_X2_gather_60 l E Q v3 s := b_loop_wp (fun t h => t_X2_gather_s60 h) s h
abbrev A_X2_gather_122 (l : Launch) (E : bE) (Q : bM → Prop) (v3 : Int) : (Int × bM) → Prop := (fun t : Int × bM => V l E xX2_gather (0, 0) 122 [(0, bR 7), (3, bJ v3), (5, bI (t.1))] [] t.2 (b_pV Q))
abbrev X_X2_gather_122 (l : Launch) (E : bE) (Q : bM → Prop) (v3 : Int) : (bM) → Prop := (fun t : bM => V l E xX2_gather (0, 0) 186 [(0, bR 7), (3, bJ v3)] [] t (b_pV Q))
noncomputable def F_X2_gather_b176 (v3 : Int) (v5 : Int) (u1 : Int) (u2 : Int) (M : bM) : Option ((Int × bM) ⊕ (bM)) :=
  b_let (b_up M 7 13 (i_or u1 u2)) (fun M31 => b_g (b_i32 (v5 + 1)) (some (.inl ((v5 + 1), M31))))
theorem t_X2_gather_b176 {l : Launch} {E : bE} {Q : bM → Prop} {v3 : Int} {v5 : Int} {u1 : Int} {u2 : Int} {M : bM} (h : b_wp (F_X2_gather_b176 v3 v5 u1 u2 M) (Sum.elim (A_X2_gather_122 l E Q v3) (X_X2_gather_122 l E Q v3))) : V l E xX2_gather (0, 0) 176 [(0, bR 7), (3, bJ v3), (5, bI v5)] [bI u2, bI u1, bR 7] M (b_pV Q) := by
  unfold F_X2_gather_b176 at h
  refine v_ior (v := i_or _ _) rfl dX2_gather_176 ?_
  refine v_putI (kf := 13) (kz := 13) rfl kd_7 rfl ⟨by decide, by decide⟩ rfl wf_2_132 rfl rfl dX2_gather_177 ?_
  replace h := b_wp_l h
  obtain ⟨g32, h⟩ := b_wp_g h
  refine v_iincN (ls' := [(5, bI _), (0, bR _), (3, bJ _)]) 2 rfl (by decide) g32 dX2_gather_180 rfl ?_
  refine v_goto (tgt := 122) dX2_gather_183 (by decide) ?_
  refine v_sub (ls2 := [(0, bR _), (3, bJ _), (5, bI _)]) [1, 2, 0] rfl ?_
  exact h
noncomputable def F_X2_gather_s122 (v3 : Int) (v5 : Int) (M : bM) : Option ((Int × bM) ⊕ (bM)) :=
  if (M 7 6) ≤ v5 then (some (.inr (M))) else (b_g (0 ≤ v5 ∧ v5 < 30) (b_bind (F_X2_linksAfter (M 135 v5) M) (fun x25 => b_g (0 ≤ v5 ∧ v5 < 90) (b_let (b_up M 136 v5 x25) (fun M27 => b_g (0 ≤ v5 ∧ v5 < 30) (b_bind (F_X2_endsWith (M27 135 v5) M27) (fun x29 => if x29 = 0 then (F_X2_gather_b176 v3 v5 (M27 7 13) 0 M27) else (F_X2_gather_b176 v3 v5 (M27 7 13) (i_shl 1 v5) M27))))))))
theorem t_X2_gather_s122 {l : Launch} {E : bE} {Q : bM → Prop} {v3 : Int} {v5 : Int} {M : bM} (h : b_wp (F_X2_gather_s122 v3 v5 M) (Sum.elim (A_X2_gather_122 l E Q v3) (X_X2_gather_122 l E Q v3))) : V l E xX2_gather (0, 0) 122 [(0, bR 7), (3, bJ v3), (5, bI v5)] [] M (b_pV Q) := by
  unfold F_X2_gather_s122 at h
  refine v_iload (i := 5) 2 rfl dX2_gather_122 ?_
  refine v_aload_n (f := 0) 0 rfl dX2_gather_124 ?_
  refine v_getI (kf := 6) (kz := 6) rfl kd_7 rfl ⟨by decide, by decide⟩ rfl wf_2_129 dX2_gather_125 ?_
  refine v_icmp_ge (tgt := 186) dX2_gather_128 (by decide) (fun c23 => ?_) (fun c23 => ?_)
  · replace h := b_wp_t c23 h
    refine v_sub (ls2 := [(0, bR _), (3, bJ _)]) [0, 1] rfl ?_
    exact h
  · replace h := b_wp_f c23 h
    obtain ⟨g24, h⟩ := b_wp_g h
    refine v_aload_n (f := 0) 0 rfl dX2_gather_131 ?_
    refine v_getR (kf := 14) (kz := 14) rfl kd_7 rfl ⟨by decide, by decide⟩ rfl wf_2_34 dX2_gather_132 ?_
    refine v_iload (i := 5) 2 rfl dX2_gather_135 ?_
    refine v_aload_n (f := 0) 0 rfl dX2_gather_137 ?_
    refine v_aload_n (f := 0) 0 rfl dX2_gather_138 ?_
    refine v_getR (kf := 12) (kz := 12) rfl kd_7 rfl ⟨by decide, by decide⟩ rfl wf_2_29 dX2_gather_139 ?_
    refine v_iload (i := 5) 2 rfl dX2_gather_142 ?_
    refine v_iaload kd_135 g24 (by decide) dX2_gather_144 ?_
    refine v_cVIp (nA := 1) (As := [bI _]) (ix := 149) (cf_X2_linksAfter (b_wp_b h)) rfl kd_7 rfl rfl wc_X2_linksAfter wm_2_149 wi_X2_linksAfter ws_X2_linksAfter wn_2 ⟨by decide, by decide, by decide⟩ rfl ⟨by decide, by decide⟩ ⟨by decide, by decide⟩ (Nat.le_of_ble_eq_true rfl) dX2_gather_145 (fun x25 h => ?_)
    obtain ⟨g26, h⟩ := b_wp_g h
    refine v_iastore kd_136 g26 (by decide) dX2_gather_148 ?_
    replace h := b_wp_l h
    obtain ⟨g28, h⟩ := b_wp_g h
    refine v_aload_n (f := 0) 0 rfl dX2_gather_149 ?_
    refine v_dup rfl dX2_gather_150 ?_
    refine v_getI (kf := 13) (kz := 13) rfl kd_7 rfl ⟨by decide, by decide⟩ rfl wf_2_132 dX2_gather_151 ?_
    refine v_aload_n (f := 0) 0 rfl dX2_gather_154 ?_
    refine v_aload_n (f := 0) 0 rfl dX2_gather_155 ?_
    refine v_getR (kf := 12) (kz := 12) rfl kd_7 rfl ⟨by decide, by decide⟩ rfl wf_2_29 dX2_gather_156 ?_
    refine v_iload (i := 5) 2 rfl dX2_gather_159 ?_
    refine v_iaload kd_135 g28 (by decide) dX2_gather_161 ?_
    refine v_cVIp (nA := 1) (As := [bI _]) (ix := 152) (cf_X2_endsWith (b_wp_b h)) rfl kd_7 rfl rfl wc_X2_endsWith wm_2_152 wi_X2_endsWith ws_X2_endsWith wn_2 ⟨by decide, by decide, by decide⟩ rfl ⟨by decide, by decide⟩ ⟨by decide, by decide⟩ (Nat.le_of_ble_eq_true rfl) dX2_gather_162 (fun x29 h => ?_)
    refine v_if_eq (tgt := 175) dX2_gather_165 (by decide) (fun c30 => ?_) (fun c30 => ?_)
    · replace h := b_wp_t c30 h
      refine v_iconst ⟨by decide, by decide⟩ dX2_gather_175 ?_
      exact t_X2_gather_b176 h
    · replace h := b_wp_f c30 h
      refine v_iconst ⟨by decide, by decide⟩ dX2_gather_168 ?_
      refine v_iload (i := 5) 2 rfl dX2_gather_169 ?_
      refine v_ishl (v := i_shl _ _) rfl dX2_gather_171 ?_
      refine v_goto (tgt := 176) dX2_gather_172 (by decide) ?_
      exact t_X2_gather_b176 h
theorem l_X2_gather_122 {l : Launch} {E : bE} {Q : bM → Prop} {v3 : Int} {s : Int × bM} (h : b_wp (b_loop (fun t => F_X2_gather_s122 v3 t.1 t.2) s) (X_X2_gather_122 l E Q v3)) : A_X2_gather_122 l E Q v3 s := b_loop_wp (fun t h => t_X2_gather_s122 h) s h
abbrev A_X2_gather_194 (l : Launch) (E : bE) (Q : bM → Prop) (v3 : Int) : (Int × bM) → Prop := (fun t : Int × bM => V l E xX2_gather (0, 0) 194 [(0, bR 7), (3, bJ v3), (5, bI (t.1))] [] t.2 (b_pV Q))
abbrev X_X2_gather_194 (l : Launch) (E : bE) (Q : bM → Prop) (v3 : Int) : (bM) → Prop := (fun t : bM => V l E xX2_gather (0, 0) 283 [] [] t (b_pV Q))
noncomputable def F_X2_gather_s194 (v3 : Int) (v5 : Int) (M : bM) : Option ((Int × bM) ⊕ (bM)) :=
  if (M 3 0) ≤ v5 then (some (.inr (M))) else (b_bind (F_X5_isAmong v5 v3 M) (fun x35 => if x35 = 0 then (b_g (b_i32 (v5 + 1)) (some (.inl ((v5 + 1), M)))) else (b_g (0 ≤ v5 ∧ v5 < 60) (if (M 92 v5) = (-1) then (b_g (b_i32 (v5 + 1)) (some (.inl ((v5 + 1), M)))) else (b_let (b_up M 7 5 (j_or (M 7 5) (j_shl 1 v5))) (fun M41 => b_g ((b_i32 (30 + v5)) ∧ (0 ≤ v5 ∧ v5 < 60)) (b_bind (F_X8_groupOf (M41 92 v5) M41) (fun x44 => b_bind (F_X2_linksAfter x44 M41) (fun x45 => b_g (0 ≤ (30 + v5) ∧ (30 + v5) < 90) (b_let (b_up M41 136 (30 + v5) x45) (fun M47 => b_g (b_i32 (v5 + 1)) (some (.inl ((v5 + 1), M47))))))))))))))
theorem t_X2_gather_s194 {l : Launch} {E : bE} {Q : bM → Prop} {v3 : Int} {v5 : Int} {M : bM} (h : b_wp (F_X2_gather_s194 v3 v5 M) (Sum.elim (A_X2_gather_194 l E Q v3) (X_X2_gather_194 l E Q v3))) : V l E xX2_gather (0, 0) 194 [(0, bR 7), (3, bJ v3), (5, bI v5)] [] M (b_pV Q) := by
  unfold F_X2_gather_s194 at h
  refine v_iload (i := 5) 2 rfl dX2_gather_194 ?_
  refine v_aload_n (f := 0) 0 rfl dX2_gather_196 ?_
  refine v_getR (kf := 1) (kz := 1) rfl kd_7 rfl ⟨by decide, by decide⟩ rfl wf_2_56 dX2_gather_197 ?_
  refine v_getI (kf := 0) (kz := 0) rfl kd_3 rfl ⟨by decide, by decide⟩ rfl wf_2_160 dX2_gather_200 ?_
  refine v_icmp_ge (tgt := 283) dX2_gather_203 (by decide) (fun c34 => ?_) (fun c34 => ?_)
  · replace h := b_wp_t c34 h
    refine v_sub (ls2 := []) [] rfl ?_
    exact h
  · replace h := b_wp_f c34 h
    refine v_aload_n (f := 0) 0 rfl dX2_gather_206 ?_
    refine v_getR (kf := 1) (kz := 1) rfl kd_7 rfl ⟨by decide, by decide⟩ rfl wf_2_56 dX2_gather_207 ?_
    refine v_iload (i := 5) 2 rfl dX2_gather_210 ?_
    refine v_lload_n (f := 3) 1 rfl dX2_gather_212 ?_
    refine v_cVIp (nA := 2) (As := [bI _, bJ _]) (ix := 142) (cf_X5_isAmong (b_wp_b h)) rfl kd_3 rfl rfl wc_X5_isAmong wm_2_142 wi_X5_isAmong ws_X5_isAmong wn_5 ⟨by decide, by decide, by decide⟩ rfl ⟨by decide, by decide⟩ ⟨by decide, by decide⟩ (Nat.le_of_ble_eq_true rfl) dX2_gather_213 (fun x35 h => ?_)
    refine v_if_eq (tgt := 277) dX2_gather_216 (by decide) (fun c36 => ?_) (fun c36 => ?_)
    · replace h := b_wp_t c36 h
      obtain ⟨g37, h⟩ := b_wp_g h
      refine v_iincN (ls' := [(5, bI _), (0, bR _), (3, bJ _)]) 2 rfl (by decide) g37 dX2_gather_277 rfl ?_
      refine v_goto (tgt := 194) dX2_gather_280 (by decide) ?_
      refine v_sub (ls2 := [(0, bR _), (3, bJ _), (5, bI _)]) [1, 2, 0] rfl ?_
      exact h
    · replace h := b_wp_f c36 h
      obtain ⟨g38, h⟩ := b_wp_g h
      refine v_aload_n (f := 0) 0 rfl dX2_gather_219 ?_
      refine v_getR (kf := 1) (kz := 1) rfl kd_7 rfl ⟨by decide, by decide⟩ rfl wf_2_56 dX2_gather_220 ?_
      refine v_getR (kf := 8) (kz := 8) rfl kd_3 rfl ⟨by decide, by decide⟩ rfl wf_2_161 dX2_gather_223 ?_
      refine v_iload (i := 5) 2 rfl dX2_gather_226 ?_
      refine v_iaload kd_92 g38 (by decide) dX2_gather_228 ?_
      refine v_iconst ⟨by decide, by decide⟩ dX2_gather_229 ?_
      refine v_icmp_eq (tgt := 277) dX2_gather_230 (by decide) (fun c39 => ?_) (fun c39 => ?_)
      · replace h := b_wp_t c39 h
        obtain ⟨g40, h⟩ := b_wp_g h
        refine v_iincN (ls' := [(5, bI _), (0, bR _), (3, bJ _)]) 2 rfl (by decide) g40 dX2_gather_277 rfl ?_
        refine v_goto (tgt := 194) dX2_gather_280 (by decide) ?_
        refine v_sub (ls2 := [(0, bR _), (3, bJ _), (5, bI _)]) [1, 2, 0] rfl ?_
        exact h
      · replace h := b_wp_f c39 h
        refine v_aload_n (f := 0) 0 rfl dX2_gather_233 ?_
        refine v_dup rfl dX2_gather_234 ?_
        refine v_getJ (kf := 5) (kz := 5) rfl kd_7 rfl ⟨by decide, by decide⟩ rfl wf_2_156 dX2_gather_235 ?_
        refine v_lconst1 dX2_gather_238 ?_
        refine v_iload (i := 5) 2 rfl dX2_gather_239 ?_
        refine v_lshl (v := j_shl _ _) rfl dX2_gather_241 ?_
        refine v_lor (v := j_or _ _) rfl dX2_gather_242 ?_
        refine v_putJ (kf := 5) (kz := 5) rfl kd_7 rfl ⟨by decide, by decide⟩ rfl wf_2_156 rfl rfl dX2_gather_243 ?_
        replace h := b_wp_l h
        obtain ⟨⟨g42, g43⟩, h⟩ := b_wp_g h
        refine v_aload_n (f := 0) 0 rfl dX2_gather_246 ?_
        refine v_getR (kf := 14) (kz := 14) rfl kd_7 rfl ⟨by decide, by decide⟩ rfl wf_2_34 dX2_gather_247 ?_
        refine v_bipush ⟨by decide, by decide⟩ (by decide) dX2_gather_250 ?_
        refine v_iload (i := 5) 2 rfl dX2_gather_252 ?_
        refine v_iaddN g42 dX2_gather_254 ?_
        refine v_aload_n (f := 0) 0 rfl dX2_gather_255 ?_
        refine v_aload_n (f := 0) 0 rfl dX2_gather_256 ?_
        refine v_getR (kf := 0) (kz := 0) rfl kd_7 rfl ⟨by decide, by decide⟩ rfl wf_2_52 dX2_gather_257 ?_
        refine v_aload_n (f := 0) 0 rfl dX2_gather_260 ?_
        refine v_getR (kf := 1) (kz := 1) rfl kd_7 rfl ⟨by decide, by decide⟩ rfl wf_2_56 dX2_gather_261 ?_
        refine v_getR (kf := 8) (kz := 8) rfl kd_3 rfl ⟨by decide, by decide⟩ rfl wf_2_161 dX2_gather_264 ?_
        refine v_iload (i := 5) 2 rfl dX2_gather_267 ?_
        refine v_iaload kd_92 g43 (by decide) dX2_gather_269 ?_
        refine v_cVIp (nA := 1) (As := [bI _]) (ix := 116) (cf_X8_groupOf (b_wp_b h)) rfl kd_2 rfl rfl wc_X8_groupOf wm_2_116 wi_X8_groupOf ws_X8_groupOf wn_8 ⟨by decide, by decide, by decide⟩ rfl ⟨by decide, by decide⟩ ⟨by decide, by decide⟩ (Nat.le_of_ble_eq_true rfl) dX2_gather_270 (fun x44 h => ?_)
        refine v_cVIp (nA := 1) (As := [bI _]) (ix := 149) (cf_X2_linksAfter (b_wp_b h)) rfl kd_7 rfl rfl wc_X2_linksAfter wm_2_149 wi_X2_linksAfter ws_X2_linksAfter wn_2 ⟨by decide, by decide, by decide⟩ rfl ⟨by decide, by decide⟩ ⟨by decide, by decide⟩ (Nat.le_of_ble_eq_true rfl) dX2_gather_273 (fun x45 h => ?_)
        obtain ⟨g46, h⟩ := b_wp_g h
        refine v_iastore kd_136 g46 (by decide) dX2_gather_276 ?_
        replace h := b_wp_l h
        obtain ⟨g48, h⟩ := b_wp_g h
        refine v_iincN (ls' := [(5, bI _), (0, bR _), (3, bJ _)]) 2 rfl (by decide) g48 dX2_gather_277 rfl ?_
        refine v_goto (tgt := 194) dX2_gather_280 (by decide) ?_
        refine v_sub (ls2 := [(0, bR _), (3, bJ _), (5, bI _)]) [1, 2, 0] rfl ?_
        exact h
theorem l_X2_gather_194 {l : Launch} {E : bE} {Q : bM → Prop} {v3 : Int} {s : Int × bM} (h : b_wp (b_loop (fun t => F_X2_gather_s194 v3 t.1 t.2) s) (X_X2_gather_194 l E Q v3)) : A_X2_gather_194 l E Q v3 s := b_loop_wp (fun t h => t_X2_gather_s194 h) s h
noncomputable def F_X2_gather_b283 (M : bM) : Option (bM) :=
  some M
theorem t_X2_gather_b283 {l : Launch} {E : bE} {Q : bM → Prop} {M : bM} (h : b_wp (F_X2_gather_b283 M) (Q)) : V l E xX2_gather (0, 0) 283 [] [] M (b_pV Q) := by
  unfold F_X2_gather_b283 at h
  refine v_return rfl dX2_gather_283 ⟨by decide, by decide⟩ ?_
  exact ⟨rfl, h⟩
noncomputable def F_X2_gather_b186 (v3 : Int) (M : bM) : Option (bM) :=
  b_let (b_up M 7 5 0) (fun M33 => b_bind (b_loop (fun t => F_X2_gather_s194 v3 t.1 t.2) (0, M33)) (fun t => F_X2_gather_b283 t))
theorem t_X2_gather_b186 {l : Launch} {E : bE} {Q : bM → Prop} {v3 : Int} {M : bM} (h : b_wp (F_X2_gather_b186 v3 M) (Q)) : V l E xX2_gather (0, 0) 186 [(0, bR 7), (3, bJ v3)] [] M (b_pV Q) := by
  unfold F_X2_gather_b186 at h
  refine v_aload_n (f := 0) 0 rfl dX2_gather_186 ?_
  refine v_lconst0 dX2_gather_187 ?_
  refine v_putJ (kf := 5) (kz := 5) rfl kd_7 rfl ⟨by decide, by decide⟩ rfl wf_2_156 rfl rfl dX2_gather_188 ?_
  replace h := b_wp_l h
  refine v_iconst ⟨by decide, by decide⟩ dX2_gather_191 ?_
  refine v_istore (i := 5) (ls' := [(5, bI _), (0, bR _), (3, bJ _)]) (by decide) dX2_gather_192 rfl ?_
  refine v_sub (ls2 := [(0, bR _), (3, bJ _), (5, bI _)]) [1, 2, 0] rfl ?_
  refine l_X2_gather_194 (b_wp_m (fun t h => ?_) (b_wp_b h))
  show V l E xX2_gather (0, 0) 283 [] [] _ (b_pV Q)
  exact t_X2_gather_b283 h
noncomputable def F_X2_gather_b119 (v3 : Int) (M : bM) : Option (bM) :=
  b_bind (b_loop (fun t => F_X2_gather_s122 v3 t.1 t.2) (0, M)) (fun t => F_X2_gather_b186 v3 t)
theorem t_X2_gather_b119 {l : Launch} {E : bE} {Q : bM → Prop} {v3 : Int} {M : bM} (h : b_wp (F_X2_gather_b119 v3 M) (Q)) : V l E xX2_gather (0, 0) 119 [(0, bR 7), (3, bJ v3)] [] M (b_pV Q) := by
  unfold F_X2_gather_b119 at h
  refine v_iconst ⟨by decide, by decide⟩ dX2_gather_119 ?_
  refine v_istore (i := 5) (ls' := [(5, bI _), (0, bR _), (3, bJ _)]) (by decide) dX2_gather_120 rfl ?_
  refine v_sub (ls2 := [(0, bR _), (3, bJ _), (5, bI _)]) [1, 2, 0] rfl ?_
  refine l_X2_gather_122 (b_wp_m (fun t h => ?_) (b_wp_b h))
  show V l E xX2_gather (0, 0) 186 [(0, bR 7), (3, bJ _)] [] _ (b_pV Q)
  exact t_X2_gather_b186 h
noncomputable def F_X2_gather_b22 (v1 : Int) (v2 : Int) (u1 : Int) (M : bM) : Option (bM) :=
  b_g (u1 = 0 ∨ u1 = 1) (b_let (b_up M 7 3 u1) (fun M6 => b_bind (F_X8_groupOf v2 M6) (fun x7 => b_let (b_up M6 7 4 x7) (fun M8 => b_g (0 ≤ v1 ∧ v1 < 60) (b_let ((M8 91 v1)) (fun y10 => b_let (b_up M8 7 6 0) (fun M11 => b_let (b_up M11 7 13 0) (fun M12 => b_bind (b_loop (fun t => F_X2_gather_s60 y10 t.1 t.2) (0, M12)) (fun t => F_X2_gather_b119 y10 t)))))))))
theorem t_X2_gather_b22 {l : Launch} {E : bE} {Q : bM → Prop} {v1 : Int} {v2 : Int} {u1 : Int} {M : bM} (h : b_wp (F_X2_gather_b22 v1 v2 u1 M) (Q)) : V l E xX2_gather (0, 0) 22 [(0, bR 7), (1, bI v1), (2, bI v2)] [bI u1, bR 7] M (b_pV Q) := by
  unfold F_X2_gather_b22 at h
  obtain ⟨g5, h⟩ := b_wp_g h
  refine v_putZ (kf := 3) (kz := 3) rfl kd_7 rfl ⟨by decide, by decide⟩ rfl g5 wf_2_112 rfl rfl dX2_gather_22 ?_
  replace h := b_wp_l h
  refine v_aload_n (f := 0) 0 rfl dX2_gather_25 ?_
  refine v_aload_n (f := 0) 0 rfl dX2_gather_26 ?_
  refine v_getR (kf := 0) (kz := 0) rfl kd_7 rfl ⟨by decide, by decide⟩ rfl wf_2_52 dX2_gather_27 ?_
  refine v_iload_n (f := 2) 2 rfl dX2_gather_30 ?_
  refine v_cVIp (nA := 1) (As := [bI _]) (ix := 116) (cf_X8_groupOf (b_wp_b h)) rfl kd_2 rfl rfl wc_X8_groupOf wm_2_116 wi_X8_groupOf ws_X8_groupOf wn_8 ⟨by decide, by decide, by decide⟩ rfl ⟨by decide, by decide⟩ ⟨by decide, by decide⟩ (Nat.le_of_ble_eq_true rfl) dX2_gather_31 (fun x7 h => ?_)
  refine v_putI (kf := 4) (kz := 4) rfl kd_7 rfl ⟨by decide, by decide⟩ rfl wf_2_121 rfl rfl dX2_gather_34 ?_
  replace h := b_wp_l h
  obtain ⟨g9, h⟩ := b_wp_g h
  refine v_aload_n (f := 0) 0 rfl dX2_gather_37 ?_
  refine v_getR (kf := 1) (kz := 1) rfl kd_7 rfl ⟨by decide, by decide⟩ rfl wf_2_56 dX2_gather_38 ?_
  refine v_getR (kf := 7) (kz := 7) rfl kd_3 rfl ⟨by decide, by decide⟩ rfl wf_2_125 dX2_gather_41 ?_
  refine v_iload_n (f := 1) 1 rfl dX2_gather_44 ?_
  refine v_laload kd_91 g9 (by decide) dX2_gather_45 ?_
  replace h := b_wp_l h
  refine v_lstore_n (g := 3) (i := 3) (ls' := [(3, bJ _), (0, bR _), (1, bI _), (2, bI _)]) rfl (by decide) dX2_gather_46 rfl ?_
  refine v_aload_n (f := 0) 1 rfl dX2_gather_47 ?_
  refine v_iconst ⟨by decide, by decide⟩ dX2_gather_48 ?_
  refine v_putI (kf := 6) (kz := 6) rfl kd_7 rfl ⟨by decide, by decide⟩ rfl wf_2_129 rfl rfl dX2_gather_49 ?_
  replace h := b_wp_l h
  refine v_aload_n (f := 0) 1 rfl dX2_gather_52 ?_
  refine v_iconst ⟨by decide, by decide⟩ dX2_gather_53 ?_
  refine v_putI (kf := 13) (kz := 13) rfl kd_7 rfl ⟨by decide, by decide⟩ rfl wf_2_132 rfl rfl dX2_gather_54 ?_
  replace h := b_wp_l h
  refine v_iconst ⟨by decide, by decide⟩ dX2_gather_57 ?_
  refine v_istore (i := 5) (ls' := [(5, bI _), (3, bJ _), (0, bR _), (1, bI _), (2, bI _)]) (by decide) dX2_gather_58 rfl ?_
  refine v_sub (ls2 := [(0, bR _), (3, bJ _), (5, bI _)]) [2, 1, 0] rfl ?_
  refine l_X2_gather_60 (b_wp_m (fun t h => ?_) (b_wp_b h))
  show V l E xX2_gather (0, 0) 119 [(0, bR 7), (3, bJ _)] [] _ (b_pV Q)
  exact t_X2_gather_b119 h
noncomputable def F_X2_gather (v1 : Int) (v2 : Int) (M : bM) : Option (bM) :=
  b_bind (F_X4_actThen M) (fun x1 => b_g (12 ≤ x1 ∧ x1 < 22) (b_bind (F_X0_told_a x1 8 M) (fun x3 => if x3 = 1 then (F_X2_gather_b22 v1 v2 1 M) else (F_X2_gather_b22 v1 v2 0 M))))
theorem t_X2_gather {l : Launch} {E : bE} {Q : bM → Prop} {v1 : Int} {v2 : Int} {M : bM} (h : b_wp (F_X2_gather v1 v2 M) (Q)) : V l E xX2_gather (0, 0) 0 [(0, bR 7), (1, bI v1), (2, bI v2)] [] M (b_pV Q) := by
  unfold F_X2_gather at h
  refine v_aload_n (f := 0) 0 rfl dX2_gather_0 ?_
  refine v_aload_n (f := 0) 0 rfl dX2_gather_1 ?_
  refine v_getR (kf := 2) (kz := 2) rfl kd_7 rfl ⟨by decide, by decide⟩ rfl wf_2_60 dX2_gather_2 ?_
  refine v_cVAp (nA := 0) (As := []) (ix := 103) (cf_X4_actThen (b_wp_b h)) rfl kd_6 rfl rfl wc_X4_actThen wm_2_103 wi_X4_actThen ws_X4_actThen wn_4 ⟨by decide, by decide, by decide⟩ rfl ⟨by decide, by decide⟩ ⟨by decide, by decide⟩ (Nat.le_of_ble_eq_true rfl) dX2_gather_5 (fun x1 h => ?_)
  obtain ⟨g2, h⟩ := b_wp_g h
  refine v_bipush ⟨by decide, by decide⟩ (by decide) dX2_gather_8 ?_
  refine v_cVIp (nA := 1) (As := [bI _]) (ix := 109) (cf_X0_told_a (b_wp_b h)) rfl (kd_act0 g2) rfl rfl wc_X0_told wm_2_109 wi_X0_told ws_X0_told wn_0 ⟨by decide, by decide, by decide⟩ rfl ⟨by decide, by decide⟩ ⟨by decide, by decide⟩ (Nat.le_of_ble_eq_true rfl) dX2_gather_10 (fun x3 h => ?_)
  refine v_iconst ⟨by decide, by decide⟩ dX2_gather_13 ?_
  refine v_icmp_ne (tgt := 21) dX2_gather_14 (by decide) (fun c4 => ?_) (fun c4 => ?_)
  · replace h := b_wp_f c4 h
    refine v_iconst ⟨by decide, by decide⟩ dX2_gather_21 ?_
    exact t_X2_gather_b22 h
  · replace h := b_wp_t c4 h
    refine v_iconst ⟨by decide, by decide⟩ dX2_gather_17 ?_
    refine v_goto (tgt := 22) dX2_gather_18 (by decide) ?_
    exact t_X2_gather_b22 h
theorem cf_X2_gather {l : Launch} {E : bE} {M : bM} {v1 : Int} {v2 : Int} {Q : bM → Prop} (h : b_wp (F_X2_gather v1 v2 M) Q) : b_C l E xX2_gather yX2_gather [bR 7, bI v1, bI v2] M (b_pV Q) := b_met (by decide) ⟨rfl, rfl⟩ (Nat.le_of_ble_eq_true rfl) (fun _ _ => t_X2_gather h)
abbrev xX2_isRoot : bX := ("BurntHall$Chains", prog_4_method_10_code, 2, (Option.some Jvm.ClassFile.FieldType.boolean), b_rm 1 0 0, 0, "isRoot")
abbrev yX2_isRoot : MethodName := ⟨"BurntHall$Chains", "isRoot", "(I)Z"⟩
theorem dX2_isRoot_0 : decode prog_4_method_10_code 0 = .ok (.aload_n 0, 1) := by decide +kernel
theorem dX2_isRoot_1 : decode prog_4_method_10_code 1 = .ok (.getfield 156, 3) := by decide +kernel
theorem dX2_isRoot_4 : decode prog_4_method_10_code 4 = .ok (.iload_n 1, 1) := by decide +kernel
theorem dX2_isRoot_5 : decode prog_4_method_10_code 5 = .ok (.lushr, 1) := by decide +kernel
theorem dX2_isRoot_6 : decode prog_4_method_10_code 6 = .ok (.lconst 1, 1) := by decide +kernel
theorem dX2_isRoot_7 : decode prog_4_method_10_code 7 = .ok (.land, 1) := by decide +kernel
theorem dX2_isRoot_8 : decode prog_4_method_10_code 8 = .ok (.lconst 0, 1) := by decide +kernel
theorem dX2_isRoot_9 : decode prog_4_method_10_code 9 = .ok (.lcmp, 1) := by decide +kernel
theorem dX2_isRoot_10 : decode prog_4_method_10_code 10 = .ok (.ifCond .eq 7, 3) := by decide +kernel
theorem dX2_isRoot_13 : decode prog_4_method_10_code 13 = .ok (.iconst 1, 1) := by decide +kernel
theorem dX2_isRoot_14 : decode prog_4_method_10_code 14 = .ok (.goto 4, 3) := by decide +kernel
theorem dX2_isRoot_17 : decode prog_4_method_10_code 17 = .ok (.iconst 0, 1) := by decide +kernel
theorem dX2_isRoot_18 : decode prog_4_method_10_code 18 = .ok (.ireturn, 1) := by decide +kernel
noncomputable def F_X2_isRoot (v1 : Int) (M : bM) : Option (Int) :=
  if (j_cmp (j_and (j_ushr (M 7 5) v1) 1) 0) = 0 then (some 0) else (some 1)
theorem t_X2_isRoot {l : Launch} {E : bE} {Q : Int → Prop} {v1 : Int} {M : bM} (h : b_wp (F_X2_isRoot v1 M) (Q)) : V l E xX2_isRoot (0, 0) 0 [(0, bR 7), (1, bI v1)] [] M (b_pIp M Q) := by
  unfold F_X2_isRoot at h
  refine v_aload_n (f := 0) 0 rfl dX2_isRoot_0 ?_
  refine v_getJ (kf := 5) (kz := 5) rfl kd_7 rfl ⟨by decide, by decide⟩ rfl wf_2_156 dX2_isRoot_1 ?_
  refine v_iload_n (f := 1) 1 rfl dX2_isRoot_4 ?_
  refine v_lushr (v := j_ushr _ _) rfl dX2_isRoot_5 ?_
  refine v_lconst1 dX2_isRoot_6 ?_
  refine v_land (v := j_and _ _) rfl dX2_isRoot_7 ?_
  refine v_lconst0 dX2_isRoot_8 ?_
  refine v_lcmpN dX2_isRoot_9 ?_
  refine v_if_eq (tgt := 17) dX2_isRoot_10 (by decide) (fun c1 => ?_) (fun c1 => ?_)
  · replace h := b_wp_t c1 h
    refine v_iconst ⟨by decide, by decide⟩ dX2_isRoot_17 ?_
    refine v_zreturn rfl (Or.inl rfl) dX2_isRoot_18 ⟨by decide, by decide⟩ ?_
    exact ⟨_, rfl, rfl, h⟩
  · replace h := b_wp_f c1 h
    refine v_iconst ⟨by decide, by decide⟩ dX2_isRoot_13 ?_
    refine v_goto (tgt := 18) dX2_isRoot_14 (by decide) ?_
    refine v_zreturn rfl (Or.inr rfl) dX2_isRoot_18 ⟨by decide, by decide⟩ ?_
    exact ⟨_, rfl, rfl, h⟩
theorem cf_X2_isRoot {l : Launch} {E : bE} {M : bM} {v1 : Int} {Q : Int → Prop} (h : b_wp (F_X2_isRoot v1 M) Q) : b_C l E xX2_isRoot yX2_isRoot [bR 7, bI v1] M (b_pIp M Q) := b_met (by decide) ⟨rfl, rfl⟩ (Nat.le_of_ble_eq_true rfl) (fun _ _ => t_X2_isRoot h)
abbrev xX2_lotOfBareChain : bX := ("BurntHall$Chains", prog_4_method_12_code, 2, (Option.some Jvm.ClassFile.FieldType.int), b_rm 4 0 0, 0, "lotOfBareChain")
abbrev yX2_lotOfBareChain : MethodName := ⟨"BurntHall$Chains", "lotOfBareChain", "()I"⟩
theorem dX2_lotOfBareChain_0 : decode prog_4_method_12_code 0 = .ok (.iconst 0, 1) := by decide +kernel
theorem dX2_lotOfBareChain_1 : decode prog_4_method_12_code 1 = .ok (.istore_n 1, 1) := by decide +kernel
theorem dX2_lotOfBareChain_2 : decode prog_4_method_12_code 2 = .ok (.iload_n 1, 1) := by decide +kernel
theorem dX2_lotOfBareChain_3 : decode prog_4_method_12_code 3 = .ok (.aload_n 0, 1) := by decide +kernel
theorem dX2_lotOfBareChain_4 : decode prog_4_method_12_code 4 = .ok (.getfield 56, 3) := by decide +kernel
theorem dX2_lotOfBareChain_7 : decode prog_4_method_12_code 7 = .ok (.getfield 160, 3) := by decide +kernel
theorem dX2_lotOfBareChain_10 : decode prog_4_method_12_code 10 = .ok (.if_icmp .ge 42, 3) := by decide +kernel
theorem dX2_lotOfBareChain_13 : decode prog_4_method_12_code 13 = .ok (.aload_n 0, 1) := by decide +kernel
theorem dX2_lotOfBareChain_14 : decode prog_4_method_12_code 14 = .ok (.iload_n 1, 1) := by decide +kernel
theorem dX2_lotOfBareChain_15 : decode prog_4_method_12_code 15 = .ok (.invokevirtual 174, 3) := by decide +kernel
theorem dX2_lotOfBareChain_18 : decode prog_4_method_12_code 18 = .ok (.ifCond .eq 28, 3) := by decide +kernel
theorem dX2_lotOfBareChain_21 : decode prog_4_method_12_code 21 = .ok (.aload_n 0, 1) := by decide +kernel
theorem dX2_lotOfBareChain_22 : decode prog_4_method_12_code 22 = .ok (.aload_n 0, 1) := by decide +kernel
theorem dX2_lotOfBareChain_23 : decode prog_4_method_12_code 23 = .ok (.getfield 52, 3) := by decide +kernel
theorem dX2_lotOfBareChain_26 : decode prog_4_method_12_code 26 = .ok (.aload_n 0, 1) := by decide +kernel
theorem dX2_lotOfBareChain_27 : decode prog_4_method_12_code 27 = .ok (.getfield 56, 3) := by decide +kernel
theorem dX2_lotOfBareChain_30 : decode prog_4_method_12_code 30 = .ok (.getfield 161, 3) := by decide +kernel
theorem dX2_lotOfBareChain_33 : decode prog_4_method_12_code 33 = .ok (.iload_n 1, 1) := by decide +kernel
theorem dX2_lotOfBareChain_34 : decode prog_4_method_12_code 34 = .ok (.iaload, 1) := by decide +kernel
theorem dX2_lotOfBareChain_35 : decode prog_4_method_12_code 35 = .ok (.invokevirtual 116, 3) := by decide +kernel
theorem dX2_lotOfBareChain_38 : decode prog_4_method_12_code 38 = .ok (.invokevirtual 152, 3) := by decide +kernel
theorem dX2_lotOfBareChain_41 : decode prog_4_method_12_code 41 = .ok (.ifCond .eq 5, 3) := by decide +kernel
theorem dX2_lotOfBareChain_44 : decode prog_4_method_12_code 44 = .ok (.iload_n 1, 1) := by decide +kernel
theorem dX2_lotOfBareChain_45 : decode prog_4_method_12_code 45 = .ok (.ireturn, 1) := by decide +kernel
theorem dX2_lotOfBareChain_46 : decode prog_4_method_12_code 46 = .ok (.iinc 1 1, 3) := by decide +kernel
theorem dX2_lotOfBareChain_49 : decode prog_4_method_12_code 49 = .ok (.goto (-47), 3) := by decide +kernel
theorem dX2_lotOfBareChain_52 : decode prog_4_method_12_code 52 = .ok (.iconst (-1), 1) := by decide +kernel
theorem dX2_lotOfBareChain_53 : decode prog_4_method_12_code 53 = .ok (.ireturn, 1) := by decide +kernel
abbrev A_X2_lotOfBareChain_2 (l : Launch) (E : bE) (Q : Int → Prop) (M : bM) : (Int) → Prop := (fun t : Int => V l E xX2_lotOfBareChain (0, 0) 2 [(0, bR 7), (1, bI t)] [] M (b_pIp M Q))
abbrev X_X2_lotOfBareChain_2 (l : Launch) (E : bE) (Q : Int → Prop) (M : bM) : ((Unit) ⊕ Int) → Prop := (Sum.elim (fun t : Unit => V l E xX2_lotOfBareChain (0, 0) 52 [] [] M (b_pIp M Q)) Q)
noncomputable def F_X2_lotOfBareChain_s2 (v1 : Int) (M : bM) : Option ((Int) ⊕ ((Unit) ⊕ Int)) :=
  if (M 3 0) ≤ v1 then (some (.inr (.inl ()))) else (b_bind (F_X2_isRoot v1 M) (fun x2 => if x2 = 0 then (b_g (b_i32 (v1 + 1)) (some (.inl ((v1 + 1))))) else (b_g (0 ≤ v1 ∧ v1 < 60) (b_bind (F_X8_groupOf (M 92 v1) M) (fun x6 => b_bind (F_X2_endsWith x6 M) (fun x7 => if x7 = 0 then (b_g (b_i32 (v1 + 1)) (some (.inl ((v1 + 1))))) else (some (.inr (.inr v1)))))))))
theorem t_X2_lotOfBareChain_s2 {l : Launch} {E : bE} {Q : Int → Prop} {v1 : Int} {M : bM} (h : b_wp (F_X2_lotOfBareChain_s2 v1 M) (Sum.elim (A_X2_lotOfBareChain_2 l E Q M) (X_X2_lotOfBareChain_2 l E Q M))) : V l E xX2_lotOfBareChain (0, 0) 2 [(0, bR 7), (1, bI v1)] [] M (b_pIp M Q) := by
  unfold F_X2_lotOfBareChain_s2 at h
  refine v_iload_n (f := 1) 1 rfl dX2_lotOfBareChain_2 ?_
  refine v_aload_n (f := 0) 0 rfl dX2_lotOfBareChain_3 ?_
  refine v_getR (kf := 1) (kz := 1) rfl kd_7 rfl ⟨by decide, by decide⟩ rfl wf_2_56 dX2_lotOfBareChain_4 ?_
  refine v_getI (kf := 0) (kz := 0) rfl kd_3 rfl ⟨by decide, by decide⟩ rfl wf_2_160 dX2_lotOfBareChain_7 ?_
  refine v_icmp_ge (tgt := 52) dX2_lotOfBareChain_10 (by decide) (fun c1 => ?_) (fun c1 => ?_)
  · replace h := b_wp_t c1 h
    refine v_sub (ls2 := []) [] rfl ?_
    exact h
  · replace h := b_wp_f c1 h
    refine v_aload_n (f := 0) 0 rfl dX2_lotOfBareChain_13 ?_
    refine v_iload_n (f := 1) 1 rfl dX2_lotOfBareChain_14 ?_
    refine v_cVIp (nA := 1) (As := [bI _]) (ix := 174) (cf_X2_isRoot (b_wp_b h)) rfl kd_7 rfl rfl wc_X2_isRoot wm_2_174 wi_X2_isRoot ws_X2_isRoot wn_2 ⟨by decide, by decide, by decide⟩ rfl ⟨by decide, by decide⟩ ⟨by decide, by decide⟩ (Nat.le_of_ble_eq_true rfl) dX2_lotOfBareChain_15 (fun x2 h => ?_)
    refine v_if_eq (tgt := 46) dX2_lotOfBareChain_18 (by decide) (fun c3 => ?_) (fun c3 => ?_)
    · replace h := b_wp_t c3 h
      obtain ⟨g4, h⟩ := b_wp_g h
      refine v_iincN (ls' := [(1, bI _), (0, bR _)]) 1 rfl (by decide) g4 dX2_lotOfBareChain_46 rfl ?_
      refine v_goto (tgt := 2) dX2_lotOfBareChain_49 (by decide) ?_
      refine v_sub (ls2 := [(0, bR _), (1, bI _)]) [1, 0] rfl ?_
      exact h
    · replace h := b_wp_f c3 h
      obtain ⟨g5, h⟩ := b_wp_g h
      refine v_aload_n (f := 0) 0 rfl dX2_lotOfBareChain_21 ?_
      refine v_aload_n (f := 0) 0 rfl dX2_lotOfBareChain_22 ?_
      refine v_getR (kf := 0) (kz := 0) rfl kd_7 rfl ⟨by decide, by decide⟩ rfl wf_2_52 dX2_lotOfBareChain_23 ?_
      refine v_aload_n (f := 0) 0 rfl dX2_lotOfBareChain_26 ?_
      refine v_getR (kf := 1) (kz := 1) rfl kd_7 rfl ⟨by decide, by decide⟩ rfl wf_2_56 dX2_lotOfBareChain_27 ?_
      refine v_getR (kf := 8) (kz := 8) rfl kd_3 rfl ⟨by decide, by decide⟩ rfl wf_2_161 dX2_lotOfBareChain_30 ?_
      refine v_iload_n (f := 1) 1 rfl dX2_lotOfBareChain_33 ?_
      refine v_iaload kd_92 g5 (by decide) dX2_lotOfBareChain_34 ?_
      refine v_cVIp (nA := 1) (As := [bI _]) (ix := 116) (cf_X8_groupOf (b_wp_b h)) rfl kd_2 rfl rfl wc_X8_groupOf wm_2_116 wi_X8_groupOf ws_X8_groupOf wn_8 ⟨by decide, by decide, by decide⟩ rfl ⟨by decide, by decide⟩ ⟨by decide, by decide⟩ (Nat.le_of_ble_eq_true rfl) dX2_lotOfBareChain_35 (fun x6 h => ?_)
      refine v_cVIp (nA := 1) (As := [bI _]) (ix := 152) (cf_X2_endsWith (b_wp_b h)) rfl kd_7 rfl rfl wc_X2_endsWith wm_2_152 wi_X2_endsWith ws_X2_endsWith wn_2 ⟨by decide, by decide, by decide⟩ rfl ⟨by decide, by decide⟩ ⟨by decide, by decide⟩ (Nat.le_of_ble_eq_true rfl) dX2_lotOfBareChain_38 (fun x7 h => ?_)
      refine v_if_eq (tgt := 46) dX2_lotOfBareChain_41 (by decide) (fun c8 => ?_) (fun c8 => ?_)
      · replace h := b_wp_t c8 h
        obtain ⟨g9, h⟩ := b_wp_g h
        refine v_iincN (ls' := [(1, bI _), (0, bR _)]) 1 rfl (by decide) g9 dX2_lotOfBareChain_46 rfl ?_
        refine v_goto (tgt := 2) dX2_lotOfBareChain_49 (by decide) ?_
        refine v_sub (ls2 := [(0, bR _), (1, bI _)]) [1, 0] rfl ?_
        exact h
      · replace h := b_wp_f c8 h
        refine v_iload_n (f := 1) 1 rfl dX2_lotOfBareChain_44 ?_
        refine v_ireturn rfl dX2_lotOfBareChain_45 ⟨by decide, by decide⟩ ?_
        exact ⟨_, rfl, rfl, h⟩
theorem l_X2_lotOfBareChain_2 {l : Launch} {E : bE} {Q : Int → Prop} {M : bM} {s : Int} (h : b_wp (b_loop (fun t => F_X2_lotOfBareChain_s2 t M) s) (X_X2_lotOfBareChain_2 l E Q M)) : A_X2_lotOfBareChain_2 l E Q M s := b_loop_wp (fun t h => t_X2_lotOfBareChain_s2 h) s h
noncomputable def F_X2_lotOfBareChain_b52 (M : bM) : Option (Int) :=
  some (-1)
theorem t_X2_lotOfBareChain_b52 {l : Launch} {E : bE} {Q : Int → Prop} {M : bM} (h : b_wp (F_X2_lotOfBareChain_b52 M) (Q)) : V l E xX2_lotOfBareChain (0, 0) 52 [] [] M (b_pIp M Q) := by
  unfold F_X2_lotOfBareChain_b52 at h
  refine v_iconst ⟨by decide, by decide⟩ dX2_lotOfBareChain_52 ?_
  refine v_ireturn rfl dX2_lotOfBareChain_53 ⟨by decide, by decide⟩ ?_
  exact ⟨_, rfl, rfl, h⟩
noncomputable def F_X2_lotOfBareChain (M : bM) : Option (Int) :=
  b_bind (b_loop (fun t => F_X2_lotOfBareChain_s2 t M) (0)) (Sum.elim (fun t => F_X2_lotOfBareChain_b52 M) some)
theorem t_X2_lotOfBareChain {l : Launch} {E : bE} {Q : Int → Prop} {M : bM} (h : b_wp (F_X2_lotOfBareChain M) (Q)) : V l E xX2_lotOfBareChain (0, 0) 0 [(0, bR 7)] [] M (b_pIp M Q) := by
  unfold F_X2_lotOfBareChain at h
  refine v_iconst ⟨by decide, by decide⟩ dX2_lotOfBareChain_0 ?_
  refine v_istore_n (g := 1) (i := 1) (ls' := [(1, bI _), (0, bR _)]) rfl (by decide) dX2_lotOfBareChain_1 rfl ?_
  refine v_sub (ls2 := [(0, bR _), (1, bI _)]) [1, 0] rfl ?_
  refine l_X2_lotOfBareChain_2 (b_wp_m (fun t h => ?_) (b_wp_b h))
  cases t with
  | inr o => exact h
  | inl t =>
    show V l E xX2_lotOfBareChain (0, 0) 52 [] [] _ (b_pIp M Q)
    replace h := b_wp_inl h
    exact t_X2_lotOfBareChain_b52 h
theorem cf_X2_lotOfBareChain {l : Launch} {E : bE} {M : bM} {Q : Int → Prop} (h : b_wp (F_X2_lotOfBareChain M) Q) : b_C l E xX2_lotOfBareChain yX2_lotOfBareChain [bR 7] M (b_pIp M Q) := b_met (by decide) ⟨rfl, rfl⟩ (Nat.le_of_ble_eq_true rfl) (fun _ _ => t_X2_lotOfBareChain h)
abbrev xX2_mostLinks : bX := ("BurntHall$Chains", prog_4_method_16_code, 1, (Option.some Jvm.ClassFile.FieldType.int), b_rm 2 0 0, 0, "mostLinks")
abbrev yX2_mostLinks : MethodName := ⟨"BurntHall$Chains", "mostLinks", "()I"⟩
theorem dX2_mostLinks_0 : decode prog_4_method_16_code 0 = .ok (.aload_n 0, 1) := by decide +kernel
theorem dX2_mostLinks_1 : decode prog_4_method_16_code 1 = .ok (.getfield 129, 3) := by decide +kernel
theorem dX2_mostLinks_4 : decode prog_4_method_16_code 4 = .ok (.bipush 8, 2) := by decide +kernel
theorem dX2_mostLinks_6 : decode prog_4_method_16_code 6 = .ok (.invokestatic 186, 3) := by decide +kernel
theorem dX2_mostLinks_9 : decode prog_4_method_16_code 9 = .ok (.ireturn, 1) := by decide +kernel
noncomputable def F_X2_mostLinks (M : bM) : Option (Int) :=
  some (min (M 7 6) 8)
theorem t_X2_mostLinks {l : Launch} {E : bE} {Q : Int → Prop} {M : bM} (h : b_wp (F_X2_mostLinks M) (Q)) : V l E xX2_mostLinks (0, 0) 0 [(0, bR 7)] [] M (b_pIp M Q) := by
  unfold F_X2_mostLinks at h
  refine v_aload_n (f := 0) 0 rfl dX2_mostLinks_0 ?_
  refine v_getI (kf := 6) (kz := 6) rfl kd_7 rfl ⟨by decide, by decide⟩ rfl wf_2_129 dX2_mostLinks_1 ?_
  refine v_bipush ⟨by decide, by decide⟩ (by decide) dX2_mostLinks_4 ?_
  refine v_mmin wm_2_186 wma_min wmi wmc_min ⟨by decide, by decide⟩ ⟨by decide, by decide⟩ (Nat.le_of_ble_eq_true rfl) dX2_mostLinks_6 ?_
  refine v_ireturn rfl dX2_mostLinks_9 ⟨by decide, by decide⟩ ?_
  exact ⟨_, rfl, rfl, h⟩
theorem cf_X2_mostLinks {l : Launch} {E : bE} {M : bM} {Q : Int → Prop} (h : b_wp (F_X2_mostLinks M) Q) : b_C l E xX2_mostLinks yX2_mostLinks [bR 7] M (b_pIp M Q) := b_met (by decide) ⟨rfl, rfl⟩ (Nat.le_of_ble_eq_true rfl) (fun _ _ => t_X2_mostLinks h)
abbrev xX2_isEnder : bX := ("BurntHall$Chains", prog_4_method_11_code, 2, (Option.some Jvm.ClassFile.FieldType.boolean), b_rm 1 0 0, 0, "isEnder")
abbrev yX2_isEnder : MethodName := ⟨"BurntHall$Chains", "isEnder", "(I)Z"⟩
theorem dX2_isEnder_0 : decode prog_4_method_11_code 0 = .ok (.aload_n 0, 1) := by decide +kernel
theorem dX2_isEnder_1 : decode prog_4_method_11_code 1 = .ok (.getfield 132, 3) := by decide +kernel
theorem dX2_isEnder_4 : decode prog_4_method_11_code 4 = .ok (.iload_n 1, 1) := by decide +kernel
theorem dX2_isEnder_5 : decode prog_4_method_11_code 5 = .ok (.iushr, 1) := by decide +kernel
theorem dX2_isEnder_6 : decode prog_4_method_11_code 6 = .ok (.iconst 1, 1) := by decide +kernel
theorem dX2_isEnder_7 : decode prog_4_method_11_code 7 = .ok (.iand, 1) := by decide +kernel
theorem dX2_isEnder_8 : decode prog_4_method_11_code 8 = .ok (.ifCond .eq 7, 3) := by decide +kernel
theorem dX2_isEnder_11 : decode prog_4_method_11_code 11 = .ok (.iconst 1, 1) := by decide +kernel
theorem dX2_isEnder_12 : decode prog_4_method_11_code 12 = .ok (.goto 4, 3) := by decide +kernel
theorem dX2_isEnder_15 : decode prog_4_method_11_code 15 = .ok (.iconst 0, 1) := by decide +kernel
theorem dX2_isEnder_16 : decode prog_4_method_11_code 16 = .ok (.ireturn, 1) := by decide +kernel
noncomputable def F_X2_isEnder (v1 : Int) (M : bM) : Option (Int) :=
  if (i_and (i_ushr (M 7 13) v1) 1) = 0 then (some 0) else (some 1)
theorem t_X2_isEnder {l : Launch} {E : bE} {Q : Int → Prop} {v1 : Int} {M : bM} (h : b_wp (F_X2_isEnder v1 M) (Q)) : V l E xX2_isEnder (0, 0) 0 [(0, bR 7), (1, bI v1)] [] M (b_pIp M Q) := by
  unfold F_X2_isEnder at h
  refine v_aload_n (f := 0) 0 rfl dX2_isEnder_0 ?_
  refine v_getI (kf := 13) (kz := 13) rfl kd_7 rfl ⟨by decide, by decide⟩ rfl wf_2_132 dX2_isEnder_1 ?_
  refine v_iload_n (f := 1) 1 rfl dX2_isEnder_4 ?_
  refine v_iushr (v := i_ushr _ _) rfl dX2_isEnder_5 ?_
  refine v_iconst ⟨by decide, by decide⟩ dX2_isEnder_6 ?_
  refine v_iand (v := i_and _ _) rfl dX2_isEnder_7 ?_
  refine v_if_eq (tgt := 15) dX2_isEnder_8 (by decide) (fun c1 => ?_) (fun c1 => ?_)
  · replace h := b_wp_t c1 h
    refine v_iconst ⟨by decide, by decide⟩ dX2_isEnder_15 ?_
    refine v_zreturn rfl (Or.inl rfl) dX2_isEnder_16 ⟨by decide, by decide⟩ ?_
    exact ⟨_, rfl, rfl, h⟩
  · replace h := b_wp_f c1 h
    refine v_iconst ⟨by decide, by decide⟩ dX2_isEnder_11 ?_
    refine v_goto (tgt := 16) dX2_isEnder_12 (by decide) ?_
    refine v_zreturn rfl (Or.inr rfl) dX2_isEnder_16 ⟨by decide, by decide⟩ ?_
    exact ⟨_, rfl, rfl, h⟩
theorem cf_X2_isEnder {l : Launch} {E : bE} {M : bM} {v1 : Int} {Q : Int → Prop} (h : b_wp (F_X2_isEnder v1 M) Q) : b_C l E xX2_isEnder yX2_isEnder [bR 7, bI v1] M (b_pIp M Q) := b_met (by decide) ⟨rfl, rfl⟩ (Nat.le_of_ble_eq_true rfl) (fun _ _ => t_X2_isEnder h)
abbrev xX2_latestOf : bX := ("BurntHall$Chains", prog_4_method_18_code, 6, (Option.some Jvm.ClassFile.FieldType.int), b_rm 2 0 0, 0, "latestOf")
abbrev yX2_latestOf : MethodName := ⟨"BurntHall$Chains", "latestOf", "(II)I"⟩
theorem dX2_latestOf_0 : decode prog_4_method_18_code 0 = .ok (.iconst (-1), 1) := by decide +kernel
theorem dX2_latestOf_1 : decode prog_4_method_18_code 1 = .ok (.istore_n 3, 1) := by decide +kernel
theorem dX2_latestOf_2 : decode prog_4_method_18_code 2 = .ok (.iconst 0, 1) := by decide +kernel
theorem dX2_latestOf_3 : decode prog_4_method_18_code 3 = .ok (.istore 4, 2) := by decide +kernel
theorem dX2_latestOf_5 : decode prog_4_method_18_code 5 = .ok (.iload 4, 2) := by decide +kernel
theorem dX2_latestOf_7 : decode prog_4_method_18_code 7 = .ok (.aload_n 0, 1) := by decide +kernel
theorem dX2_latestOf_8 : decode prog_4_method_18_code 8 = .ok (.getfield 129, 3) := by decide +kernel
theorem dX2_latestOf_11 : decode prog_4_method_18_code 11 = .ok (.if_icmp .ge 68, 3) := by decide +kernel
theorem dX2_latestOf_14 : decode prog_4_method_18_code 14 = .ok (.aload_n 0, 1) := by decide +kernel
theorem dX2_latestOf_15 : decode prog_4_method_18_code 15 = .ok (.getfield 37, 3) := by decide +kernel
theorem dX2_latestOf_18 : decode prog_4_method_18_code 18 = .ok (.iload_n 1, 1) := by decide +kernel
theorem dX2_latestOf_19 : decode prog_4_method_18_code 19 = .ok (.iconst 1, 1) := by decide +kernel
theorem dX2_latestOf_20 : decode prog_4_method_18_code 20 = .ok (.isub, 1) := by decide +kernel
theorem dX2_latestOf_21 : decode prog_4_method_18_code 21 = .ok (.bipush 30, 2) := by decide +kernel
theorem dX2_latestOf_23 : decode prog_4_method_18_code 23 = .ok (.imul, 1) := by decide +kernel
theorem dX2_latestOf_24 : decode prog_4_method_18_code 24 = .ok (.iload 4, 2) := by decide +kernel
theorem dX2_latestOf_26 : decode prog_4_method_18_code 26 = .ok (.iadd, 1) := by decide +kernel
theorem dX2_latestOf_27 : decode prog_4_method_18_code 27 = .ok (.iaload, 1) := by decide +kernel
theorem dX2_latestOf_28 : decode prog_4_method_18_code 28 = .ok (.istore 5, 2) := by decide +kernel
theorem dX2_latestOf_30 : decode prog_4_method_18_code 30 = .ok (.aload_n 0, 1) := by decide +kernel
theorem dX2_latestOf_31 : decode prog_4_method_18_code 31 = .ok (.getfield 34, 3) := by decide +kernel
theorem dX2_latestOf_34 : decode prog_4_method_18_code 34 = .ok (.iload_n 2, 1) := by decide +kernel
theorem dX2_latestOf_35 : decode prog_4_method_18_code 35 = .ok (.iaload, 1) := by decide +kernel
theorem dX2_latestOf_36 : decode prog_4_method_18_code 36 = .ok (.iload 4, 2) := by decide +kernel
theorem dX2_latestOf_38 : decode prog_4_method_18_code 38 = .ok (.iushr, 1) := by decide +kernel
theorem dX2_latestOf_39 : decode prog_4_method_18_code 39 = .ok (.iconst 1, 1) := by decide +kernel
theorem dX2_latestOf_40 : decode prog_4_method_18_code 40 = .ok (.iand, 1) := by decide +kernel
theorem dX2_latestOf_41 : decode prog_4_method_18_code 41 = .ok (.ifCond .eq 32, 3) := by decide +kernel
theorem dX2_latestOf_44 : decode prog_4_method_18_code 44 = .ok (.iload 5, 2) := by decide +kernel
theorem dX2_latestOf_46 : decode prog_4_method_18_code 46 = .ok (.aload_n 0, 1) := by decide +kernel
theorem dX2_latestOf_47 : decode prog_4_method_18_code 47 = .ok (.getfield 17, 3) := by decide +kernel
theorem dX2_latestOf_50 : decode prog_4_method_18_code 50 = .ok (.iload 4, 2) := by decide +kernel
theorem dX2_latestOf_52 : decode prog_4_method_18_code 52 = .ok (.iaload, 1) := by decide +kernel
theorem dX2_latestOf_53 : decode prog_4_method_18_code 53 = .ok (.if_icmp .lt 20, 3) := by decide +kernel
theorem dX2_latestOf_56 : decode prog_4_method_18_code 56 = .ok (.iload_n 3, 1) := by decide +kernel
theorem dX2_latestOf_57 : decode prog_4_method_18_code 57 = .ok (.iload 5, 2) := by decide +kernel
theorem dX2_latestOf_59 : decode prog_4_method_18_code 59 = .ok (.aload_n 0, 1) := by decide +kernel
theorem dX2_latestOf_60 : decode prog_4_method_18_code 60 = .ok (.getfield 20, 3) := by decide +kernel
theorem dX2_latestOf_63 : decode prog_4_method_18_code 63 = .ok (.iload 4, 2) := by decide +kernel
theorem dX2_latestOf_65 : decode prog_4_method_18_code 65 = .ok (.iaload, 1) := by decide +kernel
theorem dX2_latestOf_66 : decode prog_4_method_18_code 66 = .ok (.invokestatic 186, 3) := by decide +kernel
theorem dX2_latestOf_69 : decode prog_4_method_18_code 69 = .ok (.invokestatic 197, 3) := by decide +kernel
theorem dX2_latestOf_72 : decode prog_4_method_18_code 72 = .ok (.istore_n 3, 1) := by decide +kernel
theorem dX2_latestOf_73 : decode prog_4_method_18_code 73 = .ok (.iinc 4 1, 3) := by decide +kernel
theorem dX2_latestOf_76 : decode prog_4_method_18_code 76 = .ok (.goto (-71), 3) := by decide +kernel
theorem dX2_latestOf_79 : decode prog_4_method_18_code 79 = .ok (.iload_n 3, 1) := by decide +kernel
theorem dX2_latestOf_80 : decode prog_4_method_18_code 80 = .ok (.ireturn, 1) := by decide +kernel
abbrev A_X2_latestOf_5 (l : Launch) (E : bE) (Q : Int → Prop) (v1 : Int) (v2 : Int) (M : bM) : (Int × Int) → Prop := (fun t : Int × Int => V l E xX2_latestOf (0, 0) 5 [(0, bR 7), (1, bI v1), (2, bI v2), (3, bI (t.1)), (4, bI (t.2))] [] M (b_pIp M Q))
abbrev X_X2_latestOf_5 (l : Launch) (E : bE) (Q : Int → Prop) (v1 : Int) (v2 : Int) (M : bM) : (Int) → Prop := (fun t : Int => V l E xX2_latestOf (0, 0) 79 [(3, bI t)] [] M (b_pIp M Q))
noncomputable def F_X2_latestOf_s5 (v1 : Int) (v2 : Int) (v3 : Int) (v4 : Int) (M : bM) : Option ((Int × Int) ⊕ (Int)) :=
  if (M 7 6) ≤ v4 then (some (.inr (v3))) else (b_g ((b_i32 (v1 - 1)) ∧ (b_i32 ((v1 - 1) * 30)) ∧ (b_i32 (((v1 - 1) * 30) + v4)) ∧ (0 ≤ (((v1 - 1) * 30) + v4) ∧ (((v1 - 1) * 30) + v4) < 240)) (b_let ((M 137 (((v1 - 1) * 30) + v4))) (fun y6 => b_g (0 ≤ v2 ∧ v2 < 90) (if (i_and (i_ushr (M 136 v2) v4) 1) = 0 then (b_g (b_i32 (v4 + 1)) (some (.inl (v3, (v4 + 1))))) else (b_g (0 ≤ v4 ∧ v4 < 30) (if y6 < (M 131 v4) then (b_g (b_i32 (v4 + 1)) (some (.inl (v3, (v4 + 1))))) else (b_g (0 ≤ v4 ∧ v4 < 30) (b_let ((max v3 (min y6 (M 132 v4)))) (fun y14 => b_g (b_i32 (v4 + 1)) (some (.inl (y14, (v4 + 1)))))))))))))
theorem t_X2_latestOf_s5 {l : Launch} {E : bE} {Q : Int → Prop} {v1 : Int} {v2 : Int} {v3 : Int} {v4 : Int} {M : bM} (h : b_wp (F_X2_latestOf_s5 v1 v2 v3 v4 M) (Sum.elim (A_X2_latestOf_5 l E Q v1 v2 M) (X_X2_latestOf_5 l E Q v1 v2 M))) : V l E xX2_latestOf (0, 0) 5 [(0, bR 7), (1, bI v1), (2, bI v2), (3, bI v3), (4, bI v4)] [] M (b_pIp M Q) := by
  unfold F_X2_latestOf_s5 at h
  refine v_iload (i := 4) 4 rfl dX2_latestOf_5 ?_
  refine v_aload_n (f := 0) 0 rfl dX2_latestOf_7 ?_
  refine v_getI (kf := 6) (kz := 6) rfl kd_7 rfl ⟨by decide, by decide⟩ rfl wf_2_129 dX2_latestOf_8 ?_
  refine v_icmp_ge (tgt := 79) dX2_latestOf_11 (by decide) (fun c1 => ?_) (fun c1 => ?_)
  · replace h := b_wp_t c1 h
    refine v_sub (ls2 := [(3, bI _)]) [3] rfl ?_
    exact h
  · replace h := b_wp_f c1 h
    obtain ⟨⟨g2, g3, g4, g5⟩, h⟩ := b_wp_g h
    refine v_aload_n (f := 0) 0 rfl dX2_latestOf_14 ?_
    refine v_getR (kf := 15) (kz := 15) rfl kd_7 rfl ⟨by decide, by decide⟩ rfl wf_2_37 dX2_latestOf_15 ?_
    refine v_iload_n (f := 1) 1 rfl dX2_latestOf_18 ?_
    refine v_iconst ⟨by decide, by decide⟩ dX2_latestOf_19 ?_
    refine v_isubN g2 dX2_latestOf_20 ?_
    refine v_bipush ⟨by decide, by decide⟩ (by decide) dX2_latestOf_21 ?_
    refine v_imulN g3 dX2_latestOf_23 ?_
    refine v_iload (i := 4) 4 rfl dX2_latestOf_24 ?_
    refine v_iaddN g4 dX2_latestOf_26 ?_
    refine v_iaload kd_137 g5 (by decide) dX2_latestOf_27 ?_
    replace h := b_wp_l h
    obtain ⟨g7, h⟩ := b_wp_g h
    refine v_istore (i := 5) (ls' := [(5, bI _), (0, bR _), (1, bI _), (2, bI _), (3, bI _), (4, bI _)]) (by decide) dX2_latestOf_28 rfl ?_
    refine v_aload_n (f := 0) 1 rfl dX2_latestOf_30 ?_
    refine v_getR (kf := 14) (kz := 14) rfl kd_7 rfl ⟨by decide, by decide⟩ rfl wf_2_34 dX2_latestOf_31 ?_
    refine v_iload_n (f := 2) 3 rfl dX2_latestOf_34 ?_
    refine v_iaload kd_136 g7 (by decide) dX2_latestOf_35 ?_
    refine v_iload (i := 4) 5 rfl dX2_latestOf_36 ?_
    refine v_iushr (v := i_ushr _ _) rfl dX2_latestOf_38 ?_
    refine v_iconst ⟨by decide, by decide⟩ dX2_latestOf_39 ?_
    refine v_iand (v := i_and _ _) rfl dX2_latestOf_40 ?_
    refine v_if_eq (tgt := 73) dX2_latestOf_41 (by decide) (fun c8 => ?_) (fun c8 => ?_)
    · replace h := b_wp_t c8 h
      obtain ⟨g9, h⟩ := b_wp_g h
      refine v_iincN (ls' := [(4, bI _), (5, bI _), (0, bR _), (1, bI _), (2, bI _), (3, bI _)]) 5 rfl (by decide) g9 dX2_latestOf_73 rfl ?_
      refine v_goto (tgt := 5) dX2_latestOf_76 (by decide) ?_
      refine v_sub (ls2 := [(0, bR _), (1, bI _), (2, bI _), (3, bI _), (4, bI _)]) [2, 3, 4, 5, 0] rfl ?_
      exact h
    · replace h := b_wp_f c8 h
      obtain ⟨g10, h⟩ := b_wp_g h
      refine v_iload (i := 5) 0 rfl dX2_latestOf_44 ?_
      refine v_aload_n (f := 0) 1 rfl dX2_latestOf_46 ?_
      refine v_getR (kf := 8) (kz := 8) rfl kd_7 rfl ⟨by decide, by decide⟩ rfl wf_2_17 dX2_latestOf_47 ?_
      refine v_iload (i := 4) 5 rfl dX2_latestOf_50 ?_
      refine v_iaload kd_131 g10 (by decide) dX2_latestOf_52 ?_
      refine v_icmp_lt (tgt := 73) dX2_latestOf_53 (by decide) (fun c11 => ?_) (fun c11 => ?_)
      · replace h := b_wp_t c11 h
        obtain ⟨g12, h⟩ := b_wp_g h
        refine v_iincN (ls' := [(4, bI _), (5, bI _), (0, bR _), (1, bI _), (2, bI _), (3, bI _)]) 5 rfl (by decide) g12 dX2_latestOf_73 rfl ?_
        refine v_goto (tgt := 5) dX2_latestOf_76 (by decide) ?_
        refine v_sub (ls2 := [(0, bR _), (1, bI _), (2, bI _), (3, bI _), (4, bI _)]) [2, 3, 4, 5, 0] rfl ?_
        exact h
      · replace h := b_wp_f c11 h
        obtain ⟨g13, h⟩ := b_wp_g h
        refine v_iload_n (f := 3) 4 rfl dX2_latestOf_56 ?_
        refine v_iload (i := 5) 0 rfl dX2_latestOf_57 ?_
        refine v_aload_n (f := 0) 1 rfl dX2_latestOf_59 ?_
        refine v_getR (kf := 9) (kz := 9) rfl kd_7 rfl ⟨by decide, by decide⟩ rfl wf_2_20 dX2_latestOf_60 ?_
        refine v_iload (i := 4) 5 rfl dX2_latestOf_63 ?_
        refine v_iaload kd_132 g13 (by decide) dX2_latestOf_65 ?_
        refine v_mmin wm_2_186 wma_min wmi wmc_min ⟨by decide, by decide⟩ ⟨by decide, by decide⟩ (Nat.le_of_ble_eq_true rfl) dX2_latestOf_66 ?_
        refine v_mmax wm_2_197 wma_max wmi wmc_max ⟨by decide, by decide⟩ ⟨by decide, by decide⟩ (Nat.le_of_ble_eq_true rfl) dX2_latestOf_69 ?_
        replace h := b_wp_l h
        obtain ⟨g15, h⟩ := b_wp_g h
        refine v_istore_n (g := 3) (i := 3) (ls' := [(3, bI _), (5, bI _), (0, bR _), (1, bI _), (2, bI _), (4, bI _)]) rfl (by decide) dX2_latestOf_72 rfl ?_
        refine v_iincN (ls' := [(4, bI _), (3, bI _), (5, bI _), (0, bR _), (1, bI _), (2, bI _)]) 5 rfl (by decide) g15 dX2_latestOf_73 rfl ?_
        refine v_goto (tgt := 5) dX2_latestOf_76 (by decide) ?_
        refine v_sub (ls2 := [(0, bR _), (1, bI _), (2, bI _), (3, bI _), (4, bI _)]) [3, 4, 5, 1, 0] rfl ?_
        exact h
theorem l_X2_latestOf_5 {l : Launch} {E : bE} {Q : Int → Prop} {v1 : Int} {v2 : Int} {M : bM} {s : Int × Int} (h : b_wp (b_loop (fun t => F_X2_latestOf_s5 v1 v2 t.1 t.2 M) s) (X_X2_latestOf_5 l E Q v1 v2 M)) : A_X2_latestOf_5 l E Q v1 v2 M s := b_loop_wp (fun t h => t_X2_latestOf_s5 h) s h
noncomputable def F_X2_latestOf_b79 (v3 : Int) (M : bM) : Option (Int) :=
  some v3
theorem t_X2_latestOf_b79 {l : Launch} {E : bE} {Q : Int → Prop} {v3 : Int} {M : bM} (h : b_wp (F_X2_latestOf_b79 v3 M) (Q)) : V l E xX2_latestOf (0, 0) 79 [(3, bI v3)] [] M (b_pIp M Q) := by
  unfold F_X2_latestOf_b79 at h
  refine v_iload_n (f := 3) 0 rfl dX2_latestOf_79 ?_
  refine v_ireturn rfl dX2_latestOf_80 ⟨by decide, by decide⟩ ?_
  exact ⟨_, rfl, rfl, h⟩
noncomputable def F_X2_latestOf (v1 : Int) (v2 : Int) (M : bM) : Option (Int) :=
  b_bind (b_loop (fun t => F_X2_latestOf_s5 v1 v2 t.1 t.2 M) ((-1), 0)) (fun t => F_X2_latestOf_b79 t M)
theorem t_X2_latestOf {l : Launch} {E : bE} {Q : Int → Prop} {v1 : Int} {v2 : Int} {M : bM} (h : b_wp (F_X2_latestOf v1 v2 M) (Q)) : V l E xX2_latestOf (0, 0) 0 [(0, bR 7), (1, bI v1), (2, bI v2)] [] M (b_pIp M Q) := by
  unfold F_X2_latestOf at h
  refine v_iconst ⟨by decide, by decide⟩ dX2_latestOf_0 ?_
  refine v_istore_n (g := 3) (i := 3) (ls' := [(3, bI _), (0, bR _), (1, bI _), (2, bI _)]) rfl (by decide) dX2_latestOf_1 rfl ?_
  refine v_iconst ⟨by decide, by decide⟩ dX2_latestOf_2 ?_
  refine v_istore (i := 4) (ls' := [(4, bI _), (3, bI _), (0, bR _), (1, bI _), (2, bI _)]) (by decide) dX2_latestOf_3 rfl ?_
  refine v_sub (ls2 := [(0, bR _), (1, bI _), (2, bI _), (3, bI _), (4, bI _)]) [2, 3, 4, 1, 0] rfl ?_
  refine l_X2_latestOf_5 (b_wp_m (fun t h => ?_) (b_wp_b h))
  show V l E xX2_latestOf (0, 0) 79 [(3, bI _)] [] _ (b_pIp M Q)
  exact t_X2_latestOf_b79 h
theorem cf_X2_latestOf {l : Launch} {E : bE} {M : bM} {v1 : Int} {v2 : Int} {Q : Int → Prop} (h : b_wp (F_X2_latestOf v1 v2 M) Q) : b_C l E xX2_latestOf yX2_latestOf [bR 7, bI v1, bI v2] M (b_pIp M Q) := b_met (by decide) ⟨rfl, rfl⟩ (Nat.le_of_ble_eq_true rfl) (fun _ _ => t_X2_latestOf h)
abbrev xX2_fill : bX := ("BurntHall$Chains", prog_4_method_17_code, 5, (Option.none : Option Jvm.ClassFile.FieldType), b_rm 3 0 0, 0, "fill")
abbrev yX2_fill : MethodName := ⟨"BurntHall$Chains", "fill", "(I)V"⟩
theorem dX2_fill_0 : decode prog_4_method_17_code 0 = .ok (.iconst 0, 1) := by decide +kernel
theorem dX2_fill_1 : decode prog_4_method_17_code 1 = .ok (.istore_n 2, 1) := by decide +kernel
theorem dX2_fill_2 : decode prog_4_method_17_code 2 = .ok (.iload_n 2, 1) := by decide +kernel
theorem dX2_fill_3 : decode prog_4_method_17_code 3 = .ok (.aload_n 0, 1) := by decide +kernel
theorem dX2_fill_4 : decode prog_4_method_17_code 4 = .ok (.invokevirtual 191, 3) := by decide +kernel
theorem dX2_fill_7 : decode prog_4_method_17_code 7 = .ok (.if_icmp .ge 82, 3) := by decide +kernel
theorem dX2_fill_10 : decode prog_4_method_17_code 10 = .ok (.iconst 0, 1) := by decide +kernel
theorem dX2_fill_11 : decode prog_4_method_17_code 11 = .ok (.istore_n 3, 1) := by decide +kernel
theorem dX2_fill_12 : decode prog_4_method_17_code 12 = .ok (.iload_n 3, 1) := by decide +kernel
theorem dX2_fill_13 : decode prog_4_method_17_code 13 = .ok (.aload_n 0, 1) := by decide +kernel
theorem dX2_fill_14 : decode prog_4_method_17_code 14 = .ok (.getfield 129, 3) := by decide +kernel
theorem dX2_fill_17 : decode prog_4_method_17_code 17 = .ok (.if_icmp .ge 66, 3) := by decide +kernel
theorem dX2_fill_20 : decode prog_4_method_17_code 20 = .ok (.iload_n 2, 1) := by decide +kernel
theorem dX2_fill_21 : decode prog_4_method_17_code 21 = .ok (.ifCond .le 12, 3) := by decide +kernel
theorem dX2_fill_24 : decode prog_4_method_17_code 24 = .ok (.aload_n 0, 1) := by decide +kernel
theorem dX2_fill_25 : decode prog_4_method_17_code 25 = .ok (.iload_n 2, 1) := by decide +kernel
theorem dX2_fill_26 : decode prog_4_method_17_code 26 = .ok (.iload_n 3, 1) := by decide +kernel
theorem dX2_fill_27 : decode prog_4_method_17_code 27 = .ok (.invokevirtual 194, 3) := by decide +kernel
theorem dX2_fill_30 : decode prog_4_method_17_code 30 = .ok (.goto 18, 3) := by decide +kernel
theorem dX2_fill_33 : decode prog_4_method_17_code 33 = .ok (.aload_n 0, 1) := by decide +kernel
theorem dX2_fill_34 : decode prog_4_method_17_code 34 = .ok (.iload_n 3, 1) := by decide +kernel
theorem dX2_fill_35 : decode prog_4_method_17_code 35 = .ok (.invokevirtual 177, 3) := by decide +kernel
theorem dX2_fill_38 : decode prog_4_method_17_code 38 = .ok (.ifCond .eq 9, 3) := by decide +kernel
theorem dX2_fill_41 : decode prog_4_method_17_code 41 = .ok (.sipush 9999, 3) := by decide +kernel
theorem dX2_fill_44 : decode prog_4_method_17_code 44 = .ok (.goto 4, 3) := by decide +kernel
theorem dX2_fill_47 : decode prog_4_method_17_code 47 = .ok (.iconst (-1), 1) := by decide +kernel
theorem dX2_fill_48 : decode prog_4_method_17_code 48 = .ok (.istore 4, 2) := by decide +kernel
theorem dX2_fill_50 : decode prog_4_method_17_code 50 = .ok (.aload_n 0, 1) := by decide +kernel
theorem dX2_fill_51 : decode prog_4_method_17_code 51 = .ok (.getfield 37, 3) := by decide +kernel
theorem dX2_fill_54 : decode prog_4_method_17_code 54 = .ok (.iload_n 2, 1) := by decide +kernel
theorem dX2_fill_55 : decode prog_4_method_17_code 55 = .ok (.bipush 30, 2) := by decide +kernel
theorem dX2_fill_57 : decode prog_4_method_17_code 57 = .ok (.imul, 1) := by decide +kernel
theorem dX2_fill_58 : decode prog_4_method_17_code 58 = .ok (.iload_n 3, 1) := by decide +kernel
theorem dX2_fill_59 : decode prog_4_method_17_code 59 = .ok (.iadd, 1) := by decide +kernel
theorem dX2_fill_60 : decode prog_4_method_17_code 60 = .ok (.aload_n 0, 1) := by decide +kernel
theorem dX2_fill_61 : decode prog_4_method_17_code 61 = .ok (.getfield 23, 3) := by decide +kernel
theorem dX2_fill_64 : decode prog_4_method_17_code 64 = .ok (.iload_n 3, 1) := by decide +kernel
theorem dX2_fill_65 : decode prog_4_method_17_code 65 = .ok (.iaload, 1) := by decide +kernel
theorem dX2_fill_66 : decode prog_4_method_17_code 66 = .ok (.iload_n 1, 1) := by decide +kernel
theorem dX2_fill_67 : decode prog_4_method_17_code 67 = .ok (.if_icmp .lt 8, 3) := by decide +kernel
theorem dX2_fill_70 : decode prog_4_method_17_code 70 = .ok (.iload 4, 2) := by decide +kernel
theorem dX2_fill_72 : decode prog_4_method_17_code 72 = .ok (.goto 4, 3) := by decide +kernel
theorem dX2_fill_75 : decode prog_4_method_17_code 75 = .ok (.iconst (-1), 1) := by decide +kernel
theorem dX2_fill_76 : decode prog_4_method_17_code 76 = .ok (.iastore, 1) := by decide +kernel
theorem dX2_fill_77 : decode prog_4_method_17_code 77 = .ok (.iinc 3 1, 3) := by decide +kernel
theorem dX2_fill_80 : decode prog_4_method_17_code 80 = .ok (.goto (-68), 3) := by decide +kernel
theorem dX2_fill_83 : decode prog_4_method_17_code 83 = .ok (.iinc 2 1, 3) := by decide +kernel
theorem dX2_fill_86 : decode prog_4_method_17_code 86 = .ok (.goto (-84), 3) := by decide +kernel
theorem dX2_fill_89 : decode prog_4_method_17_code 89 = .ok (.return_, 1) := by decide +kernel
abbrev A_X2_fill_2 (l : Launch) (E : bE) (Q : bM → Prop) (v1 : Int) : (Int × bM) → Prop := (fun t : Int × bM => V l E xX2_fill (0, 0) 2 [(0, bR 7), (1, bI v1), (2, bI (t.1))] [] t.2 (b_pV Q))
abbrev X_X2_fill_2 (l : Launch) (E : bE) (Q : bM → Prop) (v1 : Int) : (bM) → Prop := (fun t : bM => V l E xX2_fill (0, 0) 89 [] [] t (b_pV Q))
abbrev A_X2_fill_12 (l : Launch) (E : bE) (Q : bM → Prop) (v1 : Int) (v2 : Int) : (Int × bM) → Prop := (fun t : Int × bM => V l E xX2_fill (0, 0) 12 [(0, bR 7), (1, bI v1), (2, bI v2), (3, bI (t.1))] [] t.2 (b_pV Q))
abbrev X_X2_fill_12 (l : Launch) (E : bE) (Q : bM → Prop) (v1 : Int) (v2 : Int) : (bM) → Prop := (fun t : bM => V l E xX2_fill (0, 0) 83 [(0, bR 7), (1, bI v1), (2, bI v2)] [] t (b_pV Q))
noncomputable def F_X2_fill_b76 (v1 : Int) (v2 : Int) (v3 : Int) (u1 : Int) (u2 : Int) (M : bM) : Option ((Int × bM) ⊕ (bM)) :=
  b_g (0 ≤ u1 ∧ u1 < 240) (b_let (b_up M 137 u1 u2) (fun M12 => b_g (b_i32 (v3 + 1)) (some (.inl ((v3 + 1), M12)))))
theorem t_X2_fill_b76 {l : Launch} {E : bE} {Q : bM → Prop} {v1 : Int} {v2 : Int} {v3 : Int} {u1 : Int} {u2 : Int} {M : bM} (h : b_wp (F_X2_fill_b76 v1 v2 v3 u1 u2 M) (Sum.elim (A_X2_fill_12 l E Q v1 v2) (X_X2_fill_12 l E Q v1 v2))) : V l E xX2_fill (0, 0) 76 [(0, bR 7), (1, bI v1), (2, bI v2), (3, bI v3)] [bI u2, bI u1, bR 137] M (b_pV Q) := by
  unfold F_X2_fill_b76 at h
  obtain ⟨g11, h⟩ := b_wp_g h
  refine v_iastore kd_137 g11 (by decide) dX2_fill_76 ?_
  replace h := b_wp_l h
  obtain ⟨g13, h⟩ := b_wp_g h
  refine v_iincN (ls' := [(3, bI _), (0, bR _), (1, bI _), (2, bI _)]) 3 rfl (by decide) g13 dX2_fill_77 rfl ?_
  refine v_goto (tgt := 12) dX2_fill_80 (by decide) ?_
  refine v_sub (ls2 := [(0, bR _), (1, bI _), (2, bI _), (3, bI _)]) [1, 2, 3, 0] rfl ?_
  exact h
noncomputable def F_X2_fill_b48 (v1 : Int) (v2 : Int) (v3 : Int) (u0 : Int) (M : bM) : Option ((Int × bM) ⊕ (bM)) :=
  b_g ((b_i32 (v2 * 30)) ∧ (b_i32 ((v2 * 30) + v3)) ∧ (0 ≤ v3 ∧ v3 < 30)) (if (M 133 v3) < v1 then (F_X2_fill_b76 v1 v2 v3 ((v2 * 30) + v3) (-1) M) else (F_X2_fill_b76 v1 v2 v3 ((v2 * 30) + v3) u0 M))
theorem t_X2_fill_b48 {l : Launch} {E : bE} {Q : bM → Prop} {v1 : Int} {v2 : Int} {v3 : Int} {u0 : Int} {M : bM} (h : b_wp (F_X2_fill_b48 v1 v2 v3 u0 M) (Sum.elim (A_X2_fill_12 l E Q v1 v2) (X_X2_fill_12 l E Q v1 v2))) : V l E xX2_fill (0, 0) 48 [(0, bR 7), (1, bI v1), (2, bI v2), (3, bI v3)] [bI u0] M (b_pV Q) := by
  unfold F_X2_fill_b48 at h
  obtain ⟨⟨g7, g8, g9⟩, h⟩ := b_wp_g h
  refine v_istore (i := 4) (ls' := [(4, bI _), (0, bR _), (1, bI _), (2, bI _), (3, bI _)]) (by decide) dX2_fill_48 rfl ?_
  refine v_aload_n (f := 0) 1 rfl dX2_fill_50 ?_
  refine v_getR (kf := 15) (kz := 15) rfl kd_7 rfl ⟨by decide, by decide⟩ rfl wf_2_37 dX2_fill_51 ?_
  refine v_iload_n (f := 2) 3 rfl dX2_fill_54 ?_
  refine v_bipush ⟨by decide, by decide⟩ (by decide) dX2_fill_55 ?_
  refine v_imulN g7 dX2_fill_57 ?_
  refine v_iload_n (f := 3) 4 rfl dX2_fill_58 ?_
  refine v_iaddN g8 dX2_fill_59 ?_
  refine v_aload_n (f := 0) 1 rfl dX2_fill_60 ?_
  refine v_getR (kf := 10) (kz := 10) rfl kd_7 rfl ⟨by decide, by decide⟩ rfl wf_2_23 dX2_fill_61 ?_
  refine v_iload_n (f := 3) 4 rfl dX2_fill_64 ?_
  refine v_iaload kd_133 g9 (by decide) dX2_fill_65 ?_
  refine v_iload_n (f := 1) 2 rfl dX2_fill_66 ?_
  refine v_icmp_lt (tgt := 75) dX2_fill_67 (by decide) (fun c10 => ?_) (fun c10 => ?_)
  · replace h := b_wp_t c10 h
    refine v_iconst ⟨by decide, by decide⟩ dX2_fill_75 ?_
    refine v_sub (ls2 := [(0, bR _), (1, bI _), (2, bI _), (3, bI _)]) [1, 2, 3, 4] rfl ?_
    exact t_X2_fill_b76 h
  · replace h := b_wp_f c10 h
    refine v_iload (i := 4) 0 rfl dX2_fill_70 ?_
    refine v_goto (tgt := 76) dX2_fill_72 (by decide) ?_
    refine v_sub (ls2 := [(0, bR _), (1, bI _), (2, bI _), (3, bI _)]) [1, 2, 3, 4] rfl ?_
    exact t_X2_fill_b76 h
noncomputable def F_X2_fill_s12 (v1 : Int) (v2 : Int) (v3 : Int) (M : bM) : Option ((Int × bM) ⊕ (bM)) :=
  if (M 7 6) ≤ v3 then (some (.inr (M))) else (if v2 ≤ 0 then (b_bind (F_X2_isEnder v3 M) (fun x5 => if x5 = 0 then (F_X2_fill_b48 v1 v2 v3 (-1) M) else (F_X2_fill_b48 v1 v2 v3 9999 M))) else (b_bind (F_X2_latestOf v2 v3 M) (fun x14 => F_X2_fill_b48 v1 v2 v3 x14 M)))
theorem t_X2_fill_s12 {l : Launch} {E : bE} {Q : bM → Prop} {v1 : Int} {v2 : Int} {v3 : Int} {M : bM} (h : b_wp (F_X2_fill_s12 v1 v2 v3 M) (Sum.elim (A_X2_fill_12 l E Q v1 v2) (X_X2_fill_12 l E Q v1 v2))) : V l E xX2_fill (0, 0) 12 [(0, bR 7), (1, bI v1), (2, bI v2), (3, bI v3)] [] M (b_pV Q) := by
  unfold F_X2_fill_s12 at h
  refine v_iload_n (f := 3) 3 rfl dX2_fill_12 ?_
  refine v_aload_n (f := 0) 0 rfl dX2_fill_13 ?_
  refine v_getI (kf := 6) (kz := 6) rfl kd_7 rfl ⟨by decide, by decide⟩ rfl wf_2_129 dX2_fill_14 ?_
  refine v_icmp_ge (tgt := 83) dX2_fill_17 (by decide) (fun c3 => ?_) (fun c3 => ?_)
  · replace h := b_wp_t c3 h
    refine v_sub (ls2 := [(0, bR _), (1, bI _), (2, bI _)]) [0, 1, 2] rfl ?_
    exact h
  · replace h := b_wp_f c3 h
    refine v_iload_n (f := 2) 2 rfl dX2_fill_20 ?_
    refine v_if_le (tgt := 33) dX2_fill_21 (by decide) (fun c4 => ?_) (fun c4 => ?_)
    · replace h := b_wp_t c4 h
      refine v_aload_n (f := 0) 0 rfl dX2_fill_33 ?_
      refine v_iload_n (f := 3) 3 rfl dX2_fill_34 ?_
      refine v_cVIp (nA := 1) (As := [bI _]) (ix := 177) (cf_X2_isEnder (b_wp_b h)) rfl kd_7 rfl rfl wc_X2_isEnder wm_2_177 wi_X2_isEnder ws_X2_isEnder wn_2 ⟨by decide, by decide, by decide⟩ rfl ⟨by decide, by decide⟩ ⟨by decide, by decide⟩ (Nat.le_of_ble_eq_true rfl) dX2_fill_35 (fun x5 h => ?_)
      refine v_if_eq (tgt := 47) dX2_fill_38 (by decide) (fun c6 => ?_) (fun c6 => ?_)
      · replace h := b_wp_t c6 h
        refine v_iconst ⟨by decide, by decide⟩ dX2_fill_47 ?_
        exact t_X2_fill_b48 h
      · replace h := b_wp_f c6 h
        refine v_sipush ⟨by decide, by decide⟩ (by decide) dX2_fill_41 ?_
        refine v_goto (tgt := 48) dX2_fill_44 (by decide) ?_
        exact t_X2_fill_b48 h
    · replace h := b_wp_f c4 h
      refine v_aload_n (f := 0) 0 rfl dX2_fill_24 ?_
      refine v_iload_n (f := 2) 2 rfl dX2_fill_25 ?_
      refine v_iload_n (f := 3) 3 rfl dX2_fill_26 ?_
      refine v_cVIp (nA := 2) (As := [bI _, bI _]) (ix := 194) (cf_X2_latestOf (b_wp_b h)) rfl kd_7 rfl rfl wc_X2_latestOf wm_2_194 wi_X2_latestOf ws_X2_latestOf wn_2 ⟨by decide, by decide, by decide⟩ rfl ⟨by decide, by decide⟩ ⟨by decide, by decide⟩ (Nat.le_of_ble_eq_true rfl) dX2_fill_27 (fun x14 h => ?_)
      refine v_goto (tgt := 48) dX2_fill_30 (by decide) ?_
      exact t_X2_fill_b48 h
theorem l_X2_fill_12 {l : Launch} {E : bE} {Q : bM → Prop} {v1 : Int} {v2 : Int} {s : Int × bM} (h : b_wp (b_loop (fun t => F_X2_fill_s12 v1 v2 t.1 t.2) s) (X_X2_fill_12 l E Q v1 v2)) : A_X2_fill_12 l E Q v1 v2 s := b_loop_wp (fun t h => t_X2_fill_s12 h) s h
noncomputable def F_X2_fill_b83 (v1 : Int) (v2 : Int) (M : bM) : Option ((Int × bM) ⊕ (bM)) :=
  b_g (b_i32 (v2 + 1)) (some (.inl ((v2 + 1), M)))
theorem t_X2_fill_b83 {l : Launch} {E : bE} {Q : bM → Prop} {v1 : Int} {v2 : Int} {M : bM} (h : b_wp (F_X2_fill_b83 v1 v2 M) (Sum.elim (A_X2_fill_2 l E Q v1) (X_X2_fill_2 l E Q v1))) : V l E xX2_fill (0, 0) 83 [(0, bR 7), (1, bI v1), (2, bI v2)] [] M (b_pV Q) := by
  unfold F_X2_fill_b83 at h
  obtain ⟨g15, h⟩ := b_wp_g h
  refine v_iincN (ls' := [(2, bI _), (0, bR _), (1, bI _)]) 2 rfl (by decide) g15 dX2_fill_83 rfl ?_
  refine v_goto (tgt := 2) dX2_fill_86 (by decide) ?_
  refine v_sub (ls2 := [(0, bR _), (1, bI _), (2, bI _)]) [1, 2, 0] rfl ?_
  exact h
noncomputable def F_X2_fill_s2 (v1 : Int) (v2 : Int) (M : bM) : Option ((Int × bM) ⊕ (bM)) :=
  b_bind (F_X2_mostLinks M) (fun x1 => if x1 ≤ v2 then (some (.inr (M))) else (b_bind (b_loop (fun t => F_X2_fill_s12 v1 v2 t.1 t.2) (0, M)) (fun t => F_X2_fill_b83 v1 v2 t)))
theorem t_X2_fill_s2 {l : Launch} {E : bE} {Q : bM → Prop} {v1 : Int} {v2 : Int} {M : bM} (h : b_wp (F_X2_fill_s2 v1 v2 M) (Sum.elim (A_X2_fill_2 l E Q v1) (X_X2_fill_2 l E Q v1))) : V l E xX2_fill (0, 0) 2 [(0, bR 7), (1, bI v1), (2, bI v2)] [] M (b_pV Q) := by
  unfold F_X2_fill_s2 at h
  refine v_iload_n (f := 2) 2 rfl dX2_fill_2 ?_
  refine v_aload_n (f := 0) 0 rfl dX2_fill_3 ?_
  refine v_cVIp (nA := 0) (As := []) (ix := 191) (cf_X2_mostLinks (b_wp_b h)) rfl kd_7 rfl rfl wc_X2_mostLinks wm_2_191 wi_X2_mostLinks ws_X2_mostLinks wn_2 ⟨by decide, by decide, by decide⟩ rfl ⟨by decide, by decide⟩ ⟨by decide, by decide⟩ (Nat.le_of_ble_eq_true rfl) dX2_fill_4 (fun x1 h => ?_)
  refine v_icmp_ge (tgt := 89) dX2_fill_7 (by decide) (fun c2 => ?_) (fun c2 => ?_)
  · replace h := b_wp_t c2 h
    refine v_sub (ls2 := []) [] rfl ?_
    exact h
  · replace h := b_wp_f c2 h
    refine v_iconst ⟨by decide, by decide⟩ dX2_fill_10 ?_
    refine v_istore_n (g := 3) (i := 3) (ls' := [(3, bI _), (0, bR _), (1, bI _), (2, bI _)]) rfl (by decide) dX2_fill_11 rfl ?_
    refine v_sub (ls2 := [(0, bR _), (1, bI _), (2, bI _), (3, bI _)]) [1, 2, 3, 0] rfl ?_
    refine l_X2_fill_12 (b_wp_m (fun t h => ?_) (b_wp_b h))
    show V l E xX2_fill (0, 0) 83 [(0, bR 7), (1, bI _), (2, bI _)] [] _ (b_pV Q)
    exact t_X2_fill_b83 h
theorem l_X2_fill_2 {l : Launch} {E : bE} {Q : bM → Prop} {v1 : Int} {s : Int × bM} (h : b_wp (b_loop (fun t => F_X2_fill_s2 v1 t.1 t.2) s) (X_X2_fill_2 l E Q v1)) : A_X2_fill_2 l E Q v1 s := b_loop_wp (fun t h => t_X2_fill_s2 h) s h
noncomputable def F_X2_fill_b89 (M : bM) : Option (bM) :=
  some M
theorem t_X2_fill_b89 {l : Launch} {E : bE} {Q : bM → Prop} {M : bM} (h : b_wp (F_X2_fill_b89 M) (Q)) : V l E xX2_fill (0, 0) 89 [] [] M (b_pV Q) := by
  unfold F_X2_fill_b89 at h
  refine v_return rfl dX2_fill_89 ⟨by decide, by decide⟩ ?_
  exact ⟨rfl, h⟩
noncomputable def F_X2_fill (v1 : Int) (M : bM) : Option (bM) :=
  b_bind (b_loop (fun t => F_X2_fill_s2 v1 t.1 t.2) (0, M)) (fun t => F_X2_fill_b89 t)
theorem t_X2_fill {l : Launch} {E : bE} {Q : bM → Prop} {v1 : Int} {M : bM} (h : b_wp (F_X2_fill v1 M) (Q)) : V l E xX2_fill (0, 0) 0 [(0, bR 7), (1, bI v1)] [] M (b_pV Q) := by
  unfold F_X2_fill at h
  refine v_iconst ⟨by decide, by decide⟩ dX2_fill_0 ?_
  refine v_istore_n (g := 2) (i := 2) (ls' := [(2, bI _), (0, bR _), (1, bI _)]) rfl (by decide) dX2_fill_1 rfl ?_
  refine v_sub (ls2 := [(0, bR _), (1, bI _), (2, bI _)]) [1, 2, 0] rfl ?_
  refine l_X2_fill_2 (b_wp_m (fun t h => ?_) (b_wp_b h))
  show V l E xX2_fill (0, 0) 89 [] [] _ (b_pV Q)
  exact t_X2_fill_b89 h
theorem cf_X2_fill {l : Launch} {E : bE} {M : bM} {v1 : Int} {Q : bM → Prop} (h : b_wp (F_X2_fill v1 M) Q) : b_C l E xX2_fill yX2_fill [bR 7, bI v1] M (b_pV Q) := b_met (by decide) ⟨rfl, rfl⟩ (Nat.le_of_ble_eq_true rfl) (fun _ _ => t_X2_fill h)
abbrev xX2_leastNext : bX := ("BurntHall$Chains", prog_4_method_21_code, 6, (Option.some Jvm.ClassFile.FieldType.int), b_rm 1 0 0, 0, "leastNext")
abbrev yX2_leastNext : MethodName := ⟨"BurntHall$Chains", "leastNext", "(III)I"⟩
theorem dX2_leastNext_0 : decode prog_4_method_21_code 0 = .ok (.iconst 0, 1) := by decide +kernel
theorem dX2_leastNext_1 : decode prog_4_method_21_code 1 = .ok (.istore 4, 2) := by decide +kernel
theorem dX2_leastNext_3 : decode prog_4_method_21_code 3 = .ok (.iload 4, 2) := by decide +kernel
theorem dX2_leastNext_5 : decode prog_4_method_21_code 5 = .ok (.aload_n 0, 1) := by decide +kernel
theorem dX2_leastNext_6 : decode prog_4_method_21_code 6 = .ok (.getfield 129, 3) := by decide +kernel
theorem dX2_leastNext_9 : decode prog_4_method_21_code 9 = .ok (.if_icmp .ge 75, 3) := by decide +kernel
theorem dX2_leastNext_12 : decode prog_4_method_21_code 12 = .ok (.iload_n 3, 1) := by decide +kernel
theorem dX2_leastNext_13 : decode prog_4_method_21_code 13 = .ok (.ifCond .le 71, 3) := by decide +kernel
theorem dX2_leastNext_16 : decode prog_4_method_21_code 16 = .ok (.aload_n 0, 1) := by decide +kernel
theorem dX2_leastNext_17 : decode prog_4_method_21_code 17 = .ok (.getfield 37, 3) := by decide +kernel
theorem dX2_leastNext_20 : decode prog_4_method_21_code 20 = .ok (.iload_n 3, 1) := by decide +kernel
theorem dX2_leastNext_21 : decode prog_4_method_21_code 21 = .ok (.iconst 1, 1) := by decide +kernel
theorem dX2_leastNext_22 : decode prog_4_method_21_code 22 = .ok (.isub, 1) := by decide +kernel
theorem dX2_leastNext_23 : decode prog_4_method_21_code 23 = .ok (.bipush 30, 2) := by decide +kernel
theorem dX2_leastNext_25 : decode prog_4_method_21_code 25 = .ok (.imul, 1) := by decide +kernel
theorem dX2_leastNext_26 : decode prog_4_method_21_code 26 = .ok (.iload 4, 2) := by decide +kernel
theorem dX2_leastNext_28 : decode prog_4_method_21_code 28 = .ok (.iadd, 1) := by decide +kernel
theorem dX2_leastNext_29 : decode prog_4_method_21_code 29 = .ok (.iaload, 1) := by decide +kernel
theorem dX2_leastNext_30 : decode prog_4_method_21_code 30 = .ok (.istore 5, 2) := by decide +kernel
theorem dX2_leastNext_32 : decode prog_4_method_21_code 32 = .ok (.aload_n 0, 1) := by decide +kernel
theorem dX2_leastNext_33 : decode prog_4_method_21_code 33 = .ok (.getfield 34, 3) := by decide +kernel
theorem dX2_leastNext_36 : decode prog_4_method_21_code 36 = .ok (.iload_n 1, 1) := by decide +kernel
theorem dX2_leastNext_37 : decode prog_4_method_21_code 37 = .ok (.iaload, 1) := by decide +kernel
theorem dX2_leastNext_38 : decode prog_4_method_21_code 38 = .ok (.iload 4, 2) := by decide +kernel
theorem dX2_leastNext_40 : decode prog_4_method_21_code 40 = .ok (.iushr, 1) := by decide +kernel
theorem dX2_leastNext_41 : decode prog_4_method_21_code 41 = .ok (.iconst 1, 1) := by decide +kernel
theorem dX2_leastNext_42 : decode prog_4_method_21_code 42 = .ok (.iand, 1) := by decide +kernel
theorem dX2_leastNext_43 : decode prog_4_method_21_code 43 = .ok (.ifCond .eq 35, 3) := by decide +kernel
theorem dX2_leastNext_46 : decode prog_4_method_21_code 46 = .ok (.iload_n 2, 1) := by decide +kernel
theorem dX2_leastNext_47 : decode prog_4_method_21_code 47 = .ok (.aload_n 0, 1) := by decide +kernel
theorem dX2_leastNext_48 : decode prog_4_method_21_code 48 = .ok (.getfield 20, 3) := by decide +kernel
theorem dX2_leastNext_51 : decode prog_4_method_21_code 51 = .ok (.iload 4, 2) := by decide +kernel
theorem dX2_leastNext_53 : decode prog_4_method_21_code 53 = .ok (.iaload, 1) := by decide +kernel
theorem dX2_leastNext_54 : decode prog_4_method_21_code 54 = .ok (.if_icmp .gt 24, 3) := by decide +kernel
theorem dX2_leastNext_57 : decode prog_4_method_21_code 57 = .ok (.iload_n 2, 1) := by decide +kernel
theorem dX2_leastNext_58 : decode prog_4_method_21_code 58 = .ok (.iload 5, 2) := by decide +kernel
theorem dX2_leastNext_60 : decode prog_4_method_21_code 60 = .ok (.if_icmp .gt 18, 3) := by decide +kernel
theorem dX2_leastNext_63 : decode prog_4_method_21_code 63 = .ok (.aload_n 0, 1) := by decide +kernel
theorem dX2_leastNext_64 : decode prog_4_method_21_code 64 = .ok (.getfield 17, 3) := by decide +kernel
theorem dX2_leastNext_67 : decode prog_4_method_21_code 67 = .ok (.iload 4, 2) := by decide +kernel
theorem dX2_leastNext_69 : decode prog_4_method_21_code 69 = .ok (.iaload, 1) := by decide +kernel
theorem dX2_leastNext_70 : decode prog_4_method_21_code 70 = .ok (.iload 5, 2) := by decide +kernel
theorem dX2_leastNext_72 : decode prog_4_method_21_code 72 = .ok (.if_icmp .gt 6, 3) := by decide +kernel
theorem dX2_leastNext_75 : decode prog_4_method_21_code 75 = .ok (.iload 4, 2) := by decide +kernel
theorem dX2_leastNext_77 : decode prog_4_method_21_code 77 = .ok (.ireturn, 1) := by decide +kernel
theorem dX2_leastNext_78 : decode prog_4_method_21_code 78 = .ok (.iinc 4 1, 3) := by decide +kernel
theorem dX2_leastNext_81 : decode prog_4_method_21_code 81 = .ok (.goto (-78), 3) := by decide +kernel
theorem dX2_leastNext_84 : decode prog_4_method_21_code 84 = .ok (.iconst (-1), 1) := by decide +kernel
theorem dX2_leastNext_85 : decode prog_4_method_21_code 85 = .ok (.ireturn, 1) := by decide +kernel
abbrev A_X2_leastNext_3 (l : Launch) (E : bE) (Q : Int → Prop) (v1 : Int) (v2 : Int) (v3 : Int) (M : bM) : (Int) → Prop := (fun t : Int => V l E xX2_leastNext (0, 0) 3 [(0, bR 7), (1, bI v1), (2, bI v2), (3, bI v3), (4, bI t)] [] M (b_pIp M Q))
abbrev X_X2_leastNext_3 (l : Launch) (E : bE) (Q : Int → Prop) (v1 : Int) (v2 : Int) (v3 : Int) (M : bM) : ((Unit) ⊕ Int) → Prop := (Sum.elim (fun t : Unit => V l E xX2_leastNext (0, 0) 84 [] [] M (b_pIp M Q)) Q)
noncomputable def F_X2_leastNext_s3 (v1 : Int) (v2 : Int) (v3 : Int) (v4 : Int) (M : bM) : Option ((Int) ⊕ ((Unit) ⊕ Int)) :=
  if (M 7 6) ≤ v4 then (some (.inr (.inl ()))) else (if v3 ≤ 0 then (some (.inr (.inl ()))) else (b_g ((b_i32 (v3 - 1)) ∧ (b_i32 ((v3 - 1) * 30)) ∧ (b_i32 (((v3 - 1) * 30) + v4)) ∧ (0 ≤ (((v3 - 1) * 30) + v4) ∧ (((v3 - 1) * 30) + v4) < 240)) (b_let ((M 137 (((v3 - 1) * 30) + v4))) (fun y7 => b_g (0 ≤ v1 ∧ v1 < 90) (if (i_and (i_ushr (M 136 v1) v4) 1) = 0 then (b_g (b_i32 (v4 + 1)) (some (.inl ((v4 + 1))))) else (b_g (0 ≤ v4 ∧ v4 < 30) (if (M 132 v4) < v2 then (b_g (b_i32 (v4 + 1)) (some (.inl ((v4 + 1))))) else (if y7 < v2 then (b_g (b_i32 (v4 + 1)) (some (.inl ((v4 + 1))))) else (b_g (0 ≤ v4 ∧ v4 < 30) (if y7 < (M 131 v4) then (b_g (b_i32 (v4 + 1)) (some (.inl ((v4 + 1))))) else (some (.inr (.inr v4)))))))))))))
theorem t_X2_leastNext_s3 {l : Launch} {E : bE} {Q : Int → Prop} {v1 : Int} {v2 : Int} {v3 : Int} {v4 : Int} {M : bM} (h : b_wp (F_X2_leastNext_s3 v1 v2 v3 v4 M) (Sum.elim (A_X2_leastNext_3 l E Q v1 v2 v3 M) (X_X2_leastNext_3 l E Q v1 v2 v3 M))) : V l E xX2_leastNext (0, 0) 3 [(0, bR 7), (1, bI v1), (2, bI v2), (3, bI v3), (4, bI v4)] [] M (b_pIp M Q) := by
  unfold F_X2_leastNext_s3 at h
  refine v_iload (i := 4) 4 rfl dX2_leastNext_3 ?_
  refine v_aload_n (f := 0) 0 rfl dX2_leastNext_5 ?_
  refine v_getI (kf := 6) (kz := 6) rfl kd_7 rfl ⟨by decide, by decide⟩ rfl wf_2_129 dX2_leastNext_6 ?_
  refine v_icmp_ge (tgt := 84) dX2_leastNext_9 (by decide) (fun c1 => ?_) (fun c1 => ?_)
  · replace h := b_wp_t c1 h
    refine v_sub (ls2 := []) [] rfl ?_
    exact h
  · replace h := b_wp_f c1 h
    refine v_iload_n (f := 3) 3 rfl dX2_leastNext_12 ?_
    refine v_if_le (tgt := 84) dX2_leastNext_13 (by decide) (fun c2 => ?_) (fun c2 => ?_)
    · replace h := b_wp_t c2 h
      refine v_sub (ls2 := []) [] rfl ?_
      exact h
    · replace h := b_wp_f c2 h
      obtain ⟨⟨g3, g4, g5, g6⟩, h⟩ := b_wp_g h
      refine v_aload_n (f := 0) 0 rfl dX2_leastNext_16 ?_
      refine v_getR (kf := 15) (kz := 15) rfl kd_7 rfl ⟨by decide, by decide⟩ rfl wf_2_37 dX2_leastNext_17 ?_
      refine v_iload_n (f := 3) 3 rfl dX2_leastNext_20 ?_
      refine v_iconst ⟨by decide, by decide⟩ dX2_leastNext_21 ?_
      refine v_isubN g3 dX2_leastNext_22 ?_
      refine v_bipush ⟨by decide, by decide⟩ (by decide) dX2_leastNext_23 ?_
      refine v_imulN g4 dX2_leastNext_25 ?_
      refine v_iload (i := 4) 4 rfl dX2_leastNext_26 ?_
      refine v_iaddN g5 dX2_leastNext_28 ?_
      refine v_iaload kd_137 g6 (by decide) dX2_leastNext_29 ?_
      replace h := b_wp_l h
      obtain ⟨g8, h⟩ := b_wp_g h
      refine v_istore (i := 5) (ls' := [(5, bI _), (0, bR _), (1, bI _), (2, bI _), (3, bI _), (4, bI _)]) (by decide) dX2_leastNext_30 rfl ?_
      refine v_aload_n (f := 0) 1 rfl dX2_leastNext_32 ?_
      refine v_getR (kf := 14) (kz := 14) rfl kd_7 rfl ⟨by decide, by decide⟩ rfl wf_2_34 dX2_leastNext_33 ?_
      refine v_iload_n (f := 1) 2 rfl dX2_leastNext_36 ?_
      refine v_iaload kd_136 g8 (by decide) dX2_leastNext_37 ?_
      refine v_iload (i := 4) 5 rfl dX2_leastNext_38 ?_
      refine v_iushr (v := i_ushr _ _) rfl dX2_leastNext_40 ?_
      refine v_iconst ⟨by decide, by decide⟩ dX2_leastNext_41 ?_
      refine v_iand (v := i_and _ _) rfl dX2_leastNext_42 ?_
      refine v_if_eq (tgt := 78) dX2_leastNext_43 (by decide) (fun c9 => ?_) (fun c9 => ?_)
      · replace h := b_wp_t c9 h
        obtain ⟨g10, h⟩ := b_wp_g h
        refine v_iincN (ls' := [(4, bI _), (5, bI _), (0, bR _), (1, bI _), (2, bI _), (3, bI _)]) 5 rfl (by decide) g10 dX2_leastNext_78 rfl ?_
        refine v_goto (tgt := 3) dX2_leastNext_81 (by decide) ?_
        refine v_sub (ls2 := [(0, bR _), (1, bI _), (2, bI _), (3, bI _), (4, bI _)]) [2, 3, 4, 5, 0] rfl ?_
        exact h
      · replace h := b_wp_f c9 h
        obtain ⟨g11, h⟩ := b_wp_g h
        refine v_iload_n (f := 2) 3 rfl dX2_leastNext_46 ?_
        refine v_aload_n (f := 0) 1 rfl dX2_leastNext_47 ?_
        refine v_getR (kf := 9) (kz := 9) rfl kd_7 rfl ⟨by decide, by decide⟩ rfl wf_2_20 dX2_leastNext_48 ?_
        refine v_iload (i := 4) 5 rfl dX2_leastNext_51 ?_
        refine v_iaload kd_132 g11 (by decide) dX2_leastNext_53 ?_
        refine v_icmp_gt (tgt := 78) dX2_leastNext_54 (by decide) (fun c12 => ?_) (fun c12 => ?_)
        · replace h := b_wp_t c12 h
          obtain ⟨g13, h⟩ := b_wp_g h
          refine v_iincN (ls' := [(4, bI _), (5, bI _), (0, bR _), (1, bI _), (2, bI _), (3, bI _)]) 5 rfl (by decide) g13 dX2_leastNext_78 rfl ?_
          refine v_goto (tgt := 3) dX2_leastNext_81 (by decide) ?_
          refine v_sub (ls2 := [(0, bR _), (1, bI _), (2, bI _), (3, bI _), (4, bI _)]) [2, 3, 4, 5, 0] rfl ?_
          exact h
        · replace h := b_wp_f c12 h
          refine v_iload_n (f := 2) 3 rfl dX2_leastNext_57 ?_
          refine v_iload (i := 5) 0 rfl dX2_leastNext_58 ?_
          refine v_icmp_gt (tgt := 78) dX2_leastNext_60 (by decide) (fun c14 => ?_) (fun c14 => ?_)
          · replace h := b_wp_t c14 h
            obtain ⟨g15, h⟩ := b_wp_g h
            refine v_iincN (ls' := [(4, bI _), (5, bI _), (0, bR _), (1, bI _), (2, bI _), (3, bI _)]) 5 rfl (by decide) g15 dX2_leastNext_78 rfl ?_
            refine v_goto (tgt := 3) dX2_leastNext_81 (by decide) ?_
            refine v_sub (ls2 := [(0, bR _), (1, bI _), (2, bI _), (3, bI _), (4, bI _)]) [2, 3, 4, 5, 0] rfl ?_
            exact h
          · replace h := b_wp_f c14 h
            obtain ⟨g16, h⟩ := b_wp_g h
            refine v_aload_n (f := 0) 1 rfl dX2_leastNext_63 ?_
            refine v_getR (kf := 8) (kz := 8) rfl kd_7 rfl ⟨by decide, by decide⟩ rfl wf_2_17 dX2_leastNext_64 ?_
            refine v_iload (i := 4) 5 rfl dX2_leastNext_67 ?_
            refine v_iaload kd_131 g16 (by decide) dX2_leastNext_69 ?_
            refine v_iload (i := 5) 0 rfl dX2_leastNext_70 ?_
            refine v_icmp_gt (tgt := 78) dX2_leastNext_72 (by decide) (fun c17 => ?_) (fun c17 => ?_)
            · replace h := b_wp_t c17 h
              obtain ⟨g18, h⟩ := b_wp_g h
              refine v_iincN (ls' := [(4, bI _), (5, bI _), (0, bR _), (1, bI _), (2, bI _), (3, bI _)]) 5 rfl (by decide) g18 dX2_leastNext_78 rfl ?_
              refine v_goto (tgt := 3) dX2_leastNext_81 (by decide) ?_
              refine v_sub (ls2 := [(0, bR _), (1, bI _), (2, bI _), (3, bI _), (4, bI _)]) [2, 3, 4, 5, 0] rfl ?_
              exact h
            · replace h := b_wp_f c17 h
              refine v_iload (i := 4) 5 rfl dX2_leastNext_75 ?_
              refine v_ireturn rfl dX2_leastNext_77 ⟨by decide, by decide⟩ ?_
              exact ⟨_, rfl, rfl, h⟩
theorem l_X2_leastNext_3 {l : Launch} {E : bE} {Q : Int → Prop} {v1 : Int} {v2 : Int} {v3 : Int} {M : bM} {s : Int} (h : b_wp (b_loop (fun t => F_X2_leastNext_s3 v1 v2 v3 t M) s) (X_X2_leastNext_3 l E Q v1 v2 v3 M)) : A_X2_leastNext_3 l E Q v1 v2 v3 M s := b_loop_wp (fun t h => t_X2_leastNext_s3 h) s h
noncomputable def F_X2_leastNext_b84 (M : bM) : Option (Int) :=
  some (-1)
theorem t_X2_leastNext_b84 {l : Launch} {E : bE} {Q : Int → Prop} {M : bM} (h : b_wp (F_X2_leastNext_b84 M) (Q)) : V l E xX2_leastNext (0, 0) 84 [] [] M (b_pIp M Q) := by
  unfold F_X2_leastNext_b84 at h
  refine v_iconst ⟨by decide, by decide⟩ dX2_leastNext_84 ?_
  refine v_ireturn rfl dX2_leastNext_85 ⟨by decide, by decide⟩ ?_
  exact ⟨_, rfl, rfl, h⟩
noncomputable def F_X2_leastNext (v1 : Int) (v2 : Int) (v3 : Int) (M : bM) : Option (Int) :=
  b_bind (b_loop (fun t => F_X2_leastNext_s3 v1 v2 v3 t M) (0)) (Sum.elim (fun t => F_X2_leastNext_b84 M) some)
theorem t_X2_leastNext {l : Launch} {E : bE} {Q : Int → Prop} {v1 : Int} {v2 : Int} {v3 : Int} {M : bM} (h : b_wp (F_X2_leastNext v1 v2 v3 M) (Q)) : V l E xX2_leastNext (0, 0) 0 [(0, bR 7), (1, bI v1), (2, bI v2), (3, bI v3)] [] M (b_pIp M Q) := by
  unfold F_X2_leastNext at h
  refine v_iconst ⟨by decide, by decide⟩ dX2_leastNext_0 ?_
  refine v_istore (i := 4) (ls' := [(4, bI _), (0, bR _), (1, bI _), (2, bI _), (3, bI _)]) (by decide) dX2_leastNext_1 rfl ?_
  refine v_sub (ls2 := [(0, bR _), (1, bI _), (2, bI _), (3, bI _), (4, bI _)]) [1, 2, 3, 4, 0] rfl ?_
  refine l_X2_leastNext_3 (b_wp_m (fun t h => ?_) (b_wp_b h))
  cases t with
  | inr o => exact h
  | inl t =>
    show V l E xX2_leastNext (0, 0) 84 [] [] _ (b_pIp M Q)
    replace h := b_wp_inl h
    exact t_X2_leastNext_b84 h
theorem cf_X2_leastNext {l : Launch} {E : bE} {M : bM} {v1 : Int} {v2 : Int} {v3 : Int} {Q : Int → Prop} (h : b_wp (F_X2_leastNext v1 v2 v3 M) Q) : b_C l E xX2_leastNext yX2_leastNext [bR 7, bI v1, bI v2, bI v3] M (b_pIp M Q) := b_met (by decide) ⟨rfl, rfl⟩ (Nat.le_of_ble_eq_true rfl) (fun _ _ => t_X2_leastNext h)
abbrev xX2_firstRoot : bX := ("BurntHall$Chains", prog_4_method_20_code, 3, (Option.some Jvm.ClassFile.FieldType.int), b_rm 2 0 0, 0, "firstRoot")
abbrev yX2_firstRoot : MethodName := ⟨"BurntHall$Chains", "firstRoot", "(I)I"⟩
theorem dX2_firstRoot_0 : decode prog_4_method_20_code 0 = .ok (.iconst 0, 1) := by decide +kernel
theorem dX2_firstRoot_1 : decode prog_4_method_20_code 1 = .ok (.istore_n 2, 1) := by decide +kernel
theorem dX2_firstRoot_2 : decode prog_4_method_20_code 2 = .ok (.iload_n 2, 1) := by decide +kernel
theorem dX2_firstRoot_3 : decode prog_4_method_20_code 3 = .ok (.aload_n 0, 1) := by decide +kernel
theorem dX2_firstRoot_4 : decode prog_4_method_20_code 4 = .ok (.getfield 56, 3) := by decide +kernel
theorem dX2_firstRoot_7 : decode prog_4_method_20_code 7 = .ok (.getfield 160, 3) := by decide +kernel
theorem dX2_firstRoot_10 : decode prog_4_method_20_code 10 = .ok (.if_icmp .ge 41, 3) := by decide +kernel
theorem dX2_firstRoot_13 : decode prog_4_method_20_code 13 = .ok (.aload_n 0, 1) := by decide +kernel
theorem dX2_firstRoot_14 : decode prog_4_method_20_code 14 = .ok (.iload_n 2, 1) := by decide +kernel
theorem dX2_firstRoot_15 : decode prog_4_method_20_code 15 = .ok (.invokevirtual 174, 3) := by decide +kernel
theorem dX2_firstRoot_18 : decode prog_4_method_20_code 18 = .ok (.ifCond .eq 27, 3) := by decide +kernel
theorem dX2_firstRoot_21 : decode prog_4_method_20_code 21 = .ok (.aload_n 0, 1) := by decide +kernel
theorem dX2_firstRoot_22 : decode prog_4_method_20_code 22 = .ok (.bipush 30, 2) := by decide +kernel
theorem dX2_firstRoot_24 : decode prog_4_method_20_code 24 = .ok (.iload_n 2, 1) := by decide +kernel
theorem dX2_firstRoot_25 : decode prog_4_method_20_code 25 = .ok (.iadd, 1) := by decide +kernel
theorem dX2_firstRoot_26 : decode prog_4_method_20_code 26 = .ok (.aload_n 0, 1) := by decide +kernel
theorem dX2_firstRoot_27 : decode prog_4_method_20_code 27 = .ok (.getfield 56, 3) := by decide +kernel
theorem dX2_firstRoot_30 : decode prog_4_method_20_code 30 = .ok (.getfield 180, 3) := by decide +kernel
theorem dX2_firstRoot_33 : decode prog_4_method_20_code 33 = .ok (.iload_n 2, 1) := by decide +kernel
theorem dX2_firstRoot_34 : decode prog_4_method_20_code 34 = .ok (.iaload, 1) := by decide +kernel
theorem dX2_firstRoot_35 : decode prog_4_method_20_code 35 = .ok (.iload_n 1, 1) := by decide +kernel
theorem dX2_firstRoot_36 : decode prog_4_method_20_code 36 = .ok (.invokevirtual 200, 3) := by decide +kernel
theorem dX2_firstRoot_39 : decode prog_4_method_20_code 39 = .ok (.iconst (-1), 1) := by decide +kernel
theorem dX2_firstRoot_40 : decode prog_4_method_20_code 40 = .ok (.if_icmp .eq 5, 3) := by decide +kernel
theorem dX2_firstRoot_43 : decode prog_4_method_20_code 43 = .ok (.iload_n 2, 1) := by decide +kernel
theorem dX2_firstRoot_44 : decode prog_4_method_20_code 44 = .ok (.ireturn, 1) := by decide +kernel
theorem dX2_firstRoot_45 : decode prog_4_method_20_code 45 = .ok (.iinc 2 1, 3) := by decide +kernel
theorem dX2_firstRoot_48 : decode prog_4_method_20_code 48 = .ok (.goto (-46), 3) := by decide +kernel
theorem dX2_firstRoot_51 : decode prog_4_method_20_code 51 = .ok (.iconst (-1), 1) := by decide +kernel
theorem dX2_firstRoot_52 : decode prog_4_method_20_code 52 = .ok (.ireturn, 1) := by decide +kernel
abbrev A_X2_firstRoot_2 (l : Launch) (E : bE) (Q : Int → Prop) (v1 : Int) (M : bM) : (Int) → Prop := (fun t : Int => V l E xX2_firstRoot (0, 0) 2 [(0, bR 7), (1, bI v1), (2, bI t)] [] M (b_pIp M Q))
abbrev X_X2_firstRoot_2 (l : Launch) (E : bE) (Q : Int → Prop) (v1 : Int) (M : bM) : ((Unit) ⊕ Int) → Prop := (Sum.elim (fun t : Unit => V l E xX2_firstRoot (0, 0) 51 [] [] M (b_pIp M Q)) Q)
noncomputable def F_X2_firstRoot_s2 (v1 : Int) (v2 : Int) (M : bM) : Option ((Int) ⊕ ((Unit) ⊕ Int)) :=
  if (M 3 0) ≤ v2 then (some (.inr (.inl ()))) else (b_bind (F_X2_isRoot v2 M) (fun x2 => if x2 = 0 then (b_g (b_i32 (v2 + 1)) (some (.inl ((v2 + 1))))) else (b_g ((b_i32 (30 + v2)) ∧ (0 ≤ v2 ∧ v2 < 60)) (b_bind (F_X2_leastNext (30 + v2) (M 93 v2) v1 M) (fun x7 => if x7 = (-1) then (b_g (b_i32 (v2 + 1)) (some (.inl ((v2 + 1))))) else (some (.inr (.inr v2))))))))
theorem t_X2_firstRoot_s2 {l : Launch} {E : bE} {Q : Int → Prop} {v1 : Int} {v2 : Int} {M : bM} (h : b_wp (F_X2_firstRoot_s2 v1 v2 M) (Sum.elim (A_X2_firstRoot_2 l E Q v1 M) (X_X2_firstRoot_2 l E Q v1 M))) : V l E xX2_firstRoot (0, 0) 2 [(0, bR 7), (1, bI v1), (2, bI v2)] [] M (b_pIp M Q) := by
  unfold F_X2_firstRoot_s2 at h
  refine v_iload_n (f := 2) 2 rfl dX2_firstRoot_2 ?_
  refine v_aload_n (f := 0) 0 rfl dX2_firstRoot_3 ?_
  refine v_getR (kf := 1) (kz := 1) rfl kd_7 rfl ⟨by decide, by decide⟩ rfl wf_2_56 dX2_firstRoot_4 ?_
  refine v_getI (kf := 0) (kz := 0) rfl kd_3 rfl ⟨by decide, by decide⟩ rfl wf_2_160 dX2_firstRoot_7 ?_
  refine v_icmp_ge (tgt := 51) dX2_firstRoot_10 (by decide) (fun c1 => ?_) (fun c1 => ?_)
  · replace h := b_wp_t c1 h
    refine v_sub (ls2 := []) [] rfl ?_
    exact h
  · replace h := b_wp_f c1 h
    refine v_aload_n (f := 0) 0 rfl dX2_firstRoot_13 ?_
    refine v_iload_n (f := 2) 2 rfl dX2_firstRoot_14 ?_
    refine v_cVIp (nA := 1) (As := [bI _]) (ix := 174) (cf_X2_isRoot (b_wp_b h)) rfl kd_7 rfl rfl wc_X2_isRoot wm_2_174 wi_X2_isRoot ws_X2_isRoot wn_2 ⟨by decide, by decide, by decide⟩ rfl ⟨by decide, by decide⟩ ⟨by decide, by decide⟩ (Nat.le_of_ble_eq_true rfl) dX2_firstRoot_15 (fun x2 h => ?_)
    refine v_if_eq (tgt := 45) dX2_firstRoot_18 (by decide) (fun c3 => ?_) (fun c3 => ?_)
    · replace h := b_wp_t c3 h
      obtain ⟨g4, h⟩ := b_wp_g h
      refine v_iincN (ls' := [(2, bI _), (0, bR _), (1, bI _)]) 2 rfl (by decide) g4 dX2_firstRoot_45 rfl ?_
      refine v_goto (tgt := 2) dX2_firstRoot_48 (by decide) ?_
      refine v_sub (ls2 := [(0, bR _), (1, bI _), (2, bI _)]) [1, 2, 0] rfl ?_
      exact h
    · replace h := b_wp_f c3 h
      obtain ⟨⟨g5, g6⟩, h⟩ := b_wp_g h
      refine v_aload_n (f := 0) 0 rfl dX2_firstRoot_21 ?_
      refine v_bipush ⟨by decide, by decide⟩ (by decide) dX2_firstRoot_22 ?_
      refine v_iload_n (f := 2) 2 rfl dX2_firstRoot_24 ?_
      refine v_iaddN g5 dX2_firstRoot_25 ?_
      refine v_aload_n (f := 0) 0 rfl dX2_firstRoot_26 ?_
      refine v_getR (kf := 1) (kz := 1) rfl kd_7 rfl ⟨by decide, by decide⟩ rfl wf_2_56 dX2_firstRoot_27 ?_
      refine v_getR (kf := 9) (kz := 9) rfl kd_3 rfl ⟨by decide, by decide⟩ rfl wf_2_180 dX2_firstRoot_30 ?_
      refine v_iload_n (f := 2) 2 rfl dX2_firstRoot_33 ?_
      refine v_iaload kd_93 g6 (by decide) dX2_firstRoot_34 ?_
      refine v_iload_n (f := 1) 1 rfl dX2_firstRoot_35 ?_
      refine v_cVIp (nA := 3) (As := [bI _, bI _, bI _]) (ix := 200) (cf_X2_leastNext (b_wp_b h)) rfl kd_7 rfl rfl wc_X2_leastNext wm_2_200 wi_X2_leastNext ws_X2_leastNext wn_2 ⟨by decide, by decide, by decide⟩ rfl ⟨by decide, by decide⟩ ⟨by decide, by decide⟩ (Nat.le_of_ble_eq_true rfl) dX2_firstRoot_36 (fun x7 h => ?_)
      refine v_iconst ⟨by decide, by decide⟩ dX2_firstRoot_39 ?_
      refine v_icmp_eq (tgt := 45) dX2_firstRoot_40 (by decide) (fun c8 => ?_) (fun c8 => ?_)
      · replace h := b_wp_t c8 h
        obtain ⟨g9, h⟩ := b_wp_g h
        refine v_iincN (ls' := [(2, bI _), (0, bR _), (1, bI _)]) 2 rfl (by decide) g9 dX2_firstRoot_45 rfl ?_
        refine v_goto (tgt := 2) dX2_firstRoot_48 (by decide) ?_
        refine v_sub (ls2 := [(0, bR _), (1, bI _), (2, bI _)]) [1, 2, 0] rfl ?_
        exact h
      · replace h := b_wp_f c8 h
        refine v_iload_n (f := 2) 2 rfl dX2_firstRoot_43 ?_
        refine v_ireturn rfl dX2_firstRoot_44 ⟨by decide, by decide⟩ ?_
        exact ⟨_, rfl, rfl, h⟩
theorem l_X2_firstRoot_2 {l : Launch} {E : bE} {Q : Int → Prop} {v1 : Int} {M : bM} {s : Int} (h : b_wp (b_loop (fun t => F_X2_firstRoot_s2 v1 t M) s) (X_X2_firstRoot_2 l E Q v1 M)) : A_X2_firstRoot_2 l E Q v1 M s := b_loop_wp (fun t h => t_X2_firstRoot_s2 h) s h
noncomputable def F_X2_firstRoot_b51 (M : bM) : Option (Int) :=
  some (-1)
theorem t_X2_firstRoot_b51 {l : Launch} {E : bE} {Q : Int → Prop} {M : bM} (h : b_wp (F_X2_firstRoot_b51 M) (Q)) : V l E xX2_firstRoot (0, 0) 51 [] [] M (b_pIp M Q) := by
  unfold F_X2_firstRoot_b51 at h
  refine v_iconst ⟨by decide, by decide⟩ dX2_firstRoot_51 ?_
  refine v_ireturn rfl dX2_firstRoot_52 ⟨by decide, by decide⟩ ?_
  exact ⟨_, rfl, rfl, h⟩
noncomputable def F_X2_firstRoot (v1 : Int) (M : bM) : Option (Int) :=
  b_bind (b_loop (fun t => F_X2_firstRoot_s2 v1 t M) (0)) (Sum.elim (fun t => F_X2_firstRoot_b51 M) some)
theorem t_X2_firstRoot {l : Launch} {E : bE} {Q : Int → Prop} {v1 : Int} {M : bM} (h : b_wp (F_X2_firstRoot v1 M) (Q)) : V l E xX2_firstRoot (0, 0) 0 [(0, bR 7), (1, bI v1)] [] M (b_pIp M Q) := by
  unfold F_X2_firstRoot at h
  refine v_iconst ⟨by decide, by decide⟩ dX2_firstRoot_0 ?_
  refine v_istore_n (g := 2) (i := 2) (ls' := [(2, bI _), (0, bR _), (1, bI _)]) rfl (by decide) dX2_firstRoot_1 rfl ?_
  refine v_sub (ls2 := [(0, bR _), (1, bI _), (2, bI _)]) [1, 2, 0] rfl ?_
  refine l_X2_firstRoot_2 (b_wp_m (fun t h => ?_) (b_wp_b h))
  cases t with
  | inr o => exact h
  | inl t =>
    show V l E xX2_firstRoot (0, 0) 51 [] [] _ (b_pIp M Q)
    replace h := b_wp_inl h
    exact t_X2_firstRoot_b51 h
theorem cf_X2_firstRoot {l : Launch} {E : bE} {M : bM} {v1 : Int} {Q : Int → Prop} (h : b_wp (F_X2_firstRoot v1 M) Q) : b_C l E xX2_firstRoot yX2_firstRoot [bR 7, bI v1] M (b_pIp M Q) := b_met (by decide) ⟨rfl, rfl⟩ (Nat.le_of_ble_eq_true rfl) (fun _ _ => t_X2_firstRoot h)
abbrev xX2_shortest : bX := ("BurntHall$Chains", prog_4_method_19_code, 2, (Option.some Jvm.ClassFile.FieldType.int), b_rm 3 0 0, 0, "shortest")
abbrev yX2_shortest : MethodName := ⟨"BurntHall$Chains", "shortest", "()I"⟩
theorem dX2_shortest_0 : decode prog_4_method_19_code 0 = .ok (.iconst 1, 1) := by decide +kernel
theorem dX2_shortest_1 : decode prog_4_method_19_code 1 = .ok (.istore_n 1, 1) := by decide +kernel
theorem dX2_shortest_2 : decode prog_4_method_19_code 2 = .ok (.iload_n 1, 1) := by decide +kernel
theorem dX2_shortest_3 : decode prog_4_method_19_code 3 = .ok (.aload_n 0, 1) := by decide +kernel
theorem dX2_shortest_4 : decode prog_4_method_19_code 4 = .ok (.invokevirtual 191, 3) := by decide +kernel
theorem dX2_shortest_7 : decode prog_4_method_19_code 7 = .ok (.if_icmp .gt 20, 3) := by decide +kernel
theorem dX2_shortest_10 : decode prog_4_method_19_code 10 = .ok (.aload_n 0, 1) := by decide +kernel
theorem dX2_shortest_11 : decode prog_4_method_19_code 11 = .ok (.iload_n 1, 1) := by decide +kernel
theorem dX2_shortest_12 : decode prog_4_method_19_code 12 = .ok (.invokevirtual 89, 3) := by decide +kernel
theorem dX2_shortest_15 : decode prog_4_method_19_code 15 = .ok (.iconst (-1), 1) := by decide +kernel
theorem dX2_shortest_16 : decode prog_4_method_19_code 16 = .ok (.if_icmp .eq 5, 3) := by decide +kernel
theorem dX2_shortest_19 : decode prog_4_method_19_code 19 = .ok (.iload_n 1, 1) := by decide +kernel
theorem dX2_shortest_20 : decode prog_4_method_19_code 20 = .ok (.ireturn, 1) := by decide +kernel
theorem dX2_shortest_21 : decode prog_4_method_19_code 21 = .ok (.iinc 1 1, 3) := by decide +kernel
theorem dX2_shortest_24 : decode prog_4_method_19_code 24 = .ok (.goto (-22), 3) := by decide +kernel
theorem dX2_shortest_27 : decode prog_4_method_19_code 27 = .ok (.iconst 0, 1) := by decide +kernel
theorem dX2_shortest_28 : decode prog_4_method_19_code 28 = .ok (.ireturn, 1) := by decide +kernel
abbrev A_X2_shortest_2 (l : Launch) (E : bE) (Q : Int → Prop) (M : bM) : (Int) → Prop := (fun t : Int => V l E xX2_shortest (0, 0) 2 [(0, bR 7), (1, bI t)] [] M (b_pIp M Q))
abbrev X_X2_shortest_2 (l : Launch) (E : bE) (Q : Int → Prop) (M : bM) : ((Unit) ⊕ Int) → Prop := (Sum.elim (fun t : Unit => V l E xX2_shortest (0, 0) 27 [] [] M (b_pIp M Q)) Q)
noncomputable def F_X2_shortest_s2 (v1 : Int) (M : bM) : Option ((Int) ⊕ ((Unit) ⊕ Int)) :=
  b_bind (F_X2_mostLinks M) (fun x1 => if x1 < v1 then (some (.inr (.inl ()))) else (b_bind (F_X2_firstRoot v1 M) (fun x3 => if x3 = (-1) then (b_g (b_i32 (v1 + 1)) (some (.inl ((v1 + 1))))) else (some (.inr (.inr v1))))))
theorem t_X2_shortest_s2 {l : Launch} {E : bE} {Q : Int → Prop} {v1 : Int} {M : bM} (h : b_wp (F_X2_shortest_s2 v1 M) (Sum.elim (A_X2_shortest_2 l E Q M) (X_X2_shortest_2 l E Q M))) : V l E xX2_shortest (0, 0) 2 [(0, bR 7), (1, bI v1)] [] M (b_pIp M Q) := by
  unfold F_X2_shortest_s2 at h
  refine v_iload_n (f := 1) 1 rfl dX2_shortest_2 ?_
  refine v_aload_n (f := 0) 0 rfl dX2_shortest_3 ?_
  refine v_cVIp (nA := 0) (As := []) (ix := 191) (cf_X2_mostLinks (b_wp_b h)) rfl kd_7 rfl rfl wc_X2_mostLinks wm_2_191 wi_X2_mostLinks ws_X2_mostLinks wn_2 ⟨by decide, by decide, by decide⟩ rfl ⟨by decide, by decide⟩ ⟨by decide, by decide⟩ (Nat.le_of_ble_eq_true rfl) dX2_shortest_4 (fun x1 h => ?_)
  refine v_icmp_gt (tgt := 27) dX2_shortest_7 (by decide) (fun c2 => ?_) (fun c2 => ?_)
  · replace h := b_wp_t c2 h
    refine v_sub (ls2 := []) [] rfl ?_
    exact h
  · replace h := b_wp_f c2 h
    refine v_aload_n (f := 0) 0 rfl dX2_shortest_10 ?_
    refine v_iload_n (f := 1) 1 rfl dX2_shortest_11 ?_
    refine v_cVIp (nA := 1) (As := [bI _]) (ix := 89) (cf_X2_firstRoot (b_wp_b h)) rfl kd_7 rfl rfl wc_X2_firstRoot wm_2_89 wi_X2_firstRoot ws_X2_firstRoot wn_2 ⟨by decide, by decide, by decide⟩ rfl ⟨by decide, by decide⟩ ⟨by decide, by decide⟩ (Nat.le_of_ble_eq_true rfl) dX2_shortest_12 (fun x3 h => ?_)
    refine v_iconst ⟨by decide, by decide⟩ dX2_shortest_15 ?_
    refine v_icmp_eq (tgt := 21) dX2_shortest_16 (by decide) (fun c4 => ?_) (fun c4 => ?_)
    · replace h := b_wp_t c4 h
      obtain ⟨g5, h⟩ := b_wp_g h
      refine v_iincN (ls' := [(1, bI _), (0, bR _)]) 1 rfl (by decide) g5 dX2_shortest_21 rfl ?_
      refine v_goto (tgt := 2) dX2_shortest_24 (by decide) ?_
      refine v_sub (ls2 := [(0, bR _), (1, bI _)]) [1, 0] rfl ?_
      exact h
    · replace h := b_wp_f c4 h
      refine v_iload_n (f := 1) 1 rfl dX2_shortest_19 ?_
      refine v_ireturn rfl dX2_shortest_20 ⟨by decide, by decide⟩ ?_
      exact ⟨_, rfl, rfl, h⟩
theorem l_X2_shortest_2 {l : Launch} {E : bE} {Q : Int → Prop} {M : bM} {s : Int} (h : b_wp (b_loop (fun t => F_X2_shortest_s2 t M) s) (X_X2_shortest_2 l E Q M)) : A_X2_shortest_2 l E Q M s := b_loop_wp (fun t h => t_X2_shortest_s2 h) s h
noncomputable def F_X2_shortest_b27 (M : bM) : Option (Int) :=
  some 0
theorem t_X2_shortest_b27 {l : Launch} {E : bE} {Q : Int → Prop} {M : bM} (h : b_wp (F_X2_shortest_b27 M) (Q)) : V l E xX2_shortest (0, 0) 27 [] [] M (b_pIp M Q) := by
  unfold F_X2_shortest_b27 at h
  refine v_iconst ⟨by decide, by decide⟩ dX2_shortest_27 ?_
  refine v_ireturn rfl dX2_shortest_28 ⟨by decide, by decide⟩ ?_
  exact ⟨_, rfl, rfl, h⟩
noncomputable def F_X2_shortest (M : bM) : Option (Int) :=
  b_bind (b_loop (fun t => F_X2_shortest_s2 t M) (1)) (Sum.elim (fun t => F_X2_shortest_b27 M) some)
theorem t_X2_shortest {l : Launch} {E : bE} {Q : Int → Prop} {M : bM} (h : b_wp (F_X2_shortest M) (Q)) : V l E xX2_shortest (0, 0) 0 [(0, bR 7)] [] M (b_pIp M Q) := by
  unfold F_X2_shortest at h
  refine v_iconst ⟨by decide, by decide⟩ dX2_shortest_0 ?_
  refine v_istore_n (g := 1) (i := 1) (ls' := [(1, bI _), (0, bR _)]) rfl (by decide) dX2_shortest_1 rfl ?_
  refine v_sub (ls2 := [(0, bR _), (1, bI _)]) [1, 0] rfl ?_
  refine l_X2_shortest_2 (b_wp_m (fun t h => ?_) (b_wp_b h))
  cases t with
  | inr o => exact h
  | inl t =>
    show V l E xX2_shortest (0, 0) 27 [] [] _ (b_pIp M Q)
    replace h := b_wp_inl h
    exact t_X2_shortest_b27 h
theorem cf_X2_shortest {l : Launch} {E : bE} {M : bM} {Q : Int → Prop} (h : b_wp (F_X2_shortest M) Q) : b_C l E xX2_shortest yX2_shortest [bR 7] M (b_pIp M Q) := b_met (by decide) ⟨rfl, rfl⟩ (Nat.le_of_ble_eq_true rfl) (fun _ _ => t_X2_shortest h)
abbrev xX2_sortPoints : bX := ("BurntHall$Chains", prog_4_method_15_code, 5, (Option.some Jvm.ClassFile.FieldType.int), b_rm 1 0 0, 0, "sortPoints")
abbrev yX2_sortPoints : MethodName := ⟨"BurntHall$Chains", "sortPoints", "(I)I"⟩
theorem dX2_sortPoints_0 : decode prog_4_method_15_code 0 = .ok (.iconst 0, 1) := by decide +kernel
theorem dX2_sortPoints_1 : decode prog_4_method_15_code 1 = .ok (.istore_n 2, 1) := by decide +kernel
theorem dX2_sortPoints_2 : decode prog_4_method_15_code 2 = .ok (.iconst 0, 1) := by decide +kernel
theorem dX2_sortPoints_3 : decode prog_4_method_15_code 3 = .ok (.istore_n 3, 1) := by decide +kernel
theorem dX2_sortPoints_4 : decode prog_4_method_15_code 4 = .ok (.iload_n 3, 1) := by decide +kernel
theorem dX2_sortPoints_5 : decode prog_4_method_15_code 5 = .ok (.aload_n 0, 1) := by decide +kernel
theorem dX2_sortPoints_6 : decode prog_4_method_15_code 6 = .ok (.getfield 129, 3) := by decide +kernel
theorem dX2_sortPoints_9 : decode prog_4_method_15_code 9 = .ok (.if_icmp .ge 83, 3) := by decide +kernel
theorem dX2_sortPoints_12 : decode prog_4_method_15_code 12 = .ok (.aload_n 0, 1) := by decide +kernel
theorem dX2_sortPoints_13 : decode prog_4_method_15_code 13 = .ok (.getfield 23, 3) := by decide +kernel
theorem dX2_sortPoints_16 : decode prog_4_method_15_code 16 = .ok (.iload_n 3, 1) := by decide +kernel
theorem dX2_sortPoints_17 : decode prog_4_method_15_code 17 = .ok (.iaload, 1) := by decide +kernel
theorem dX2_sortPoints_18 : decode prog_4_method_15_code 18 = .ok (.iload_n 1, 1) := by decide +kernel
theorem dX2_sortPoints_19 : decode prog_4_method_15_code 19 = .ok (.if_icmp .lt 67, 3) := by decide +kernel
theorem dX2_sortPoints_22 : decode prog_4_method_15_code 22 = .ok (.iload_n 2, 1) := by decide +kernel
theorem dX2_sortPoints_23 : decode prog_4_method_15_code 23 = .ok (.istore 4, 2) := by decide +kernel
theorem dX2_sortPoints_25 : decode prog_4_method_15_code 25 = .ok (.iload 4, 2) := by decide +kernel
theorem dX2_sortPoints_27 : decode prog_4_method_15_code 27 = .ok (.ifCond .le 43, 3) := by decide +kernel
theorem dX2_sortPoints_30 : decode prog_4_method_15_code 30 = .ok (.aload_n 0, 1) := by decide +kernel
theorem dX2_sortPoints_31 : decode prog_4_method_15_code 31 = .ok (.getfield 40, 3) := by decide +kernel
theorem dX2_sortPoints_34 : decode prog_4_method_15_code 34 = .ok (.iload 4, 2) := by decide +kernel
theorem dX2_sortPoints_36 : decode prog_4_method_15_code 36 = .ok (.iconst 1, 1) := by decide +kernel
theorem dX2_sortPoints_37 : decode prog_4_method_15_code 37 = .ok (.isub, 1) := by decide +kernel
theorem dX2_sortPoints_38 : decode prog_4_method_15_code 38 = .ok (.iaload, 1) := by decide +kernel
theorem dX2_sortPoints_39 : decode prog_4_method_15_code 39 = .ok (.aload_n 0, 1) := by decide +kernel
theorem dX2_sortPoints_40 : decode prog_4_method_15_code 40 = .ok (.getfield 23, 3) := by decide +kernel
theorem dX2_sortPoints_43 : decode prog_4_method_15_code 43 = .ok (.iload_n 3, 1) := by decide +kernel
theorem dX2_sortPoints_44 : decode prog_4_method_15_code 44 = .ok (.iaload, 1) := by decide +kernel
theorem dX2_sortPoints_45 : decode prog_4_method_15_code 45 = .ok (.if_icmp .le 25, 3) := by decide +kernel
theorem dX2_sortPoints_48 : decode prog_4_method_15_code 48 = .ok (.aload_n 0, 1) := by decide +kernel
theorem dX2_sortPoints_49 : decode prog_4_method_15_code 49 = .ok (.getfield 40, 3) := by decide +kernel
theorem dX2_sortPoints_52 : decode prog_4_method_15_code 52 = .ok (.iload 4, 2) := by decide +kernel
theorem dX2_sortPoints_54 : decode prog_4_method_15_code 54 = .ok (.aload_n 0, 1) := by decide +kernel
theorem dX2_sortPoints_55 : decode prog_4_method_15_code 55 = .ok (.getfield 40, 3) := by decide +kernel
theorem dX2_sortPoints_58 : decode prog_4_method_15_code 58 = .ok (.iload 4, 2) := by decide +kernel
theorem dX2_sortPoints_60 : decode prog_4_method_15_code 60 = .ok (.iconst 1, 1) := by decide +kernel
theorem dX2_sortPoints_61 : decode prog_4_method_15_code 61 = .ok (.isub, 1) := by decide +kernel
theorem dX2_sortPoints_62 : decode prog_4_method_15_code 62 = .ok (.iaload, 1) := by decide +kernel
theorem dX2_sortPoints_63 : decode prog_4_method_15_code 63 = .ok (.iastore, 1) := by decide +kernel
theorem dX2_sortPoints_64 : decode prog_4_method_15_code 64 = .ok (.iinc 4 (-1), 3) := by decide +kernel
theorem dX2_sortPoints_67 : decode prog_4_method_15_code 67 = .ok (.goto (-42), 3) := by decide +kernel
theorem dX2_sortPoints_70 : decode prog_4_method_15_code 70 = .ok (.aload_n 0, 1) := by decide +kernel
theorem dX2_sortPoints_71 : decode prog_4_method_15_code 71 = .ok (.getfield 40, 3) := by decide +kernel
theorem dX2_sortPoints_74 : decode prog_4_method_15_code 74 = .ok (.iload 4, 2) := by decide +kernel
theorem dX2_sortPoints_76 : decode prog_4_method_15_code 76 = .ok (.aload_n 0, 1) := by decide +kernel
theorem dX2_sortPoints_77 : decode prog_4_method_15_code 77 = .ok (.getfield 23, 3) := by decide +kernel
theorem dX2_sortPoints_80 : decode prog_4_method_15_code 80 = .ok (.iload_n 3, 1) := by decide +kernel
theorem dX2_sortPoints_81 : decode prog_4_method_15_code 81 = .ok (.iaload, 1) := by decide +kernel
theorem dX2_sortPoints_82 : decode prog_4_method_15_code 82 = .ok (.iastore, 1) := by decide +kernel
theorem dX2_sortPoints_83 : decode prog_4_method_15_code 83 = .ok (.iinc 2 1, 3) := by decide +kernel
theorem dX2_sortPoints_86 : decode prog_4_method_15_code 86 = .ok (.iinc 3 1, 3) := by decide +kernel
theorem dX2_sortPoints_89 : decode prog_4_method_15_code 89 = .ok (.goto (-85), 3) := by decide +kernel
theorem dX2_sortPoints_92 : decode prog_4_method_15_code 92 = .ok (.iload_n 2, 1) := by decide +kernel
theorem dX2_sortPoints_93 : decode prog_4_method_15_code 93 = .ok (.ireturn, 1) := by decide +kernel
abbrev A_X2_sortPoints_4 (l : Launch) (E : bE) (Q : (Int × bM) → Prop) (v1 : Int) : (Int × Int × bM) → Prop := (fun t : Int × Int × bM => V l E xX2_sortPoints (0, 0) 4 [(0, bR 7), (1, bI v1), (2, bI (t.1)), (3, bI (t.2.1))] [] t.2.2 (b_pI Q))
abbrev X_X2_sortPoints_4 (l : Launch) (E : bE) (Q : (Int × bM) → Prop) (v1 : Int) : (Int × bM) → Prop := (fun t : Int × bM => V l E xX2_sortPoints (0, 0) 92 [(2, bI (t.1))] [] t.2 (b_pI Q))
abbrev A_X2_sortPoints_25 (l : Launch) (E : bE) (Q : (Int × bM) → Prop) (v1 : Int) (v2 : Int) (v3 : Int) : (Int × bM) → Prop := (fun t : Int × bM => V l E xX2_sortPoints (0, 0) 25 [(0, bR 7), (1, bI v1), (2, bI v2), (3, bI v3), (4, bI (t.1))] [] t.2 (b_pI Q))
abbrev X_X2_sortPoints_25 (l : Launch) (E : bE) (Q : (Int × bM) → Prop) (v1 : Int) (v2 : Int) (v3 : Int) : (Int × bM) → Prop := (fun t : Int × bM => V l E xX2_sortPoints (0, 0) 70 [(0, bR 7), (1, bI v1), (2, bI v2), (3, bI v3), (4, bI (t.1))] [] t.2 (b_pI Q))
noncomputable def F_X2_sortPoints_s25 (v1 : Int) (v2 : Int) (v3 : Int) (v4 : Int) (M : bM) : Option ((Int × bM) ⊕ (Int × bM)) :=
  if v4 ≤ 0 then (some (.inr (v4, M))) else (b_g ((b_i32 (v4 - 1)) ∧ (0 ≤ (v4 - 1) ∧ (v4 - 1) < 30) ∧ (0 ≤ v3 ∧ v3 < 30)) (if (M 138 (v4 - 1)) ≤ (M 133 v3) then (some (.inr (v4, M))) else (b_g ((b_i32 (v4 - 1)) ∧ (0 ≤ (v4 - 1) ∧ (v4 - 1) < 30) ∧ (0 ≤ v4 ∧ v4 < 30)) (b_let (b_up M 138 v4 (M 138 (v4 - 1))) (fun M13 => b_g (b_i32 (v4 + (-1))) (some (.inl ((v4 + (-1)), M13))))))))
theorem t_X2_sortPoints_s25 {l : Launch} {E : bE} {Q : (Int × bM) → Prop} {v1 : Int} {v2 : Int} {v3 : Int} {v4 : Int} {M : bM} (h : b_wp (F_X2_sortPoints_s25 v1 v2 v3 v4 M) (Sum.elim (A_X2_sortPoints_25 l E Q v1 v2 v3) (X_X2_sortPoints_25 l E Q v1 v2 v3))) : V l E xX2_sortPoints (0, 0) 25 [(0, bR 7), (1, bI v1), (2, bI v2), (3, bI v3), (4, bI v4)] [] M (b_pI Q) := by
  unfold F_X2_sortPoints_s25 at h
  refine v_iload (i := 4) 4 rfl dX2_sortPoints_25 ?_
  refine v_if_le (tgt := 70) dX2_sortPoints_27 (by decide) (fun c5 => ?_) (fun c5 => ?_)
  · replace h := b_wp_t c5 h
    exact h
  · replace h := b_wp_f c5 h
    obtain ⟨⟨g6, g7, g8⟩, h⟩ := b_wp_g h
    refine v_aload_n (f := 0) 0 rfl dX2_sortPoints_30 ?_
    refine v_getR (kf := 16) (kz := 16) rfl kd_7 rfl ⟨by decide, by decide⟩ rfl wf_2_40 dX2_sortPoints_31 ?_
    refine v_iload (i := 4) 4 rfl dX2_sortPoints_34 ?_
    refine v_iconst ⟨by decide, by decide⟩ dX2_sortPoints_36 ?_
    refine v_isubN g6 dX2_sortPoints_37 ?_
    refine v_iaload kd_138 g7 (by decide) dX2_sortPoints_38 ?_
    refine v_aload_n (f := 0) 0 rfl dX2_sortPoints_39 ?_
    refine v_getR (kf := 10) (kz := 10) rfl kd_7 rfl ⟨by decide, by decide⟩ rfl wf_2_23 dX2_sortPoints_40 ?_
    refine v_iload_n (f := 3) 3 rfl dX2_sortPoints_43 ?_
    refine v_iaload kd_133 g8 (by decide) dX2_sortPoints_44 ?_
    refine v_icmp_le (tgt := 70) dX2_sortPoints_45 (by decide) (fun c9 => ?_) (fun c9 => ?_)
    · replace h := b_wp_t c9 h
      exact h
    · replace h := b_wp_f c9 h
      obtain ⟨⟨g10, g11, g12⟩, h⟩ := b_wp_g h
      refine v_aload_n (f := 0) 0 rfl dX2_sortPoints_48 ?_
      refine v_getR (kf := 16) (kz := 16) rfl kd_7 rfl ⟨by decide, by decide⟩ rfl wf_2_40 dX2_sortPoints_49 ?_
      refine v_iload (i := 4) 4 rfl dX2_sortPoints_52 ?_
      refine v_aload_n (f := 0) 0 rfl dX2_sortPoints_54 ?_
      refine v_getR (kf := 16) (kz := 16) rfl kd_7 rfl ⟨by decide, by decide⟩ rfl wf_2_40 dX2_sortPoints_55 ?_
      refine v_iload (i := 4) 4 rfl dX2_sortPoints_58 ?_
      refine v_iconst ⟨by decide, by decide⟩ dX2_sortPoints_60 ?_
      refine v_isubN g10 dX2_sortPoints_61 ?_
      refine v_iaload kd_138 g11 (by decide) dX2_sortPoints_62 ?_
      refine v_iastore kd_138 g12 (by decide) dX2_sortPoints_63 ?_
      replace h := b_wp_l h
      obtain ⟨g14, h⟩ := b_wp_g h
      refine v_iincN (ls' := [(4, bI _), (0, bR _), (1, bI _), (2, bI _), (3, bI _)]) 4 rfl (by decide) g14 dX2_sortPoints_64 rfl ?_
      refine v_goto (tgt := 25) dX2_sortPoints_67 (by decide) ?_
      refine v_sub (ls2 := [(0, bR _), (1, bI _), (2, bI _), (3, bI _), (4, bI _)]) [1, 2, 3, 4, 0] rfl ?_
      exact h
theorem l_X2_sortPoints_25 {l : Launch} {E : bE} {Q : (Int × bM) → Prop} {v1 : Int} {v2 : Int} {v3 : Int} {s : Int × bM} (h : b_wp (b_loop (fun t => F_X2_sortPoints_s25 v1 v2 v3 t.1 t.2) s) (X_X2_sortPoints_25 l E Q v1 v2 v3)) : A_X2_sortPoints_25 l E Q v1 v2 v3 s := b_loop_wp (fun t h => t_X2_sortPoints_s25 h) s h
noncomputable def F_X2_sortPoints_b70 (v1 : Int) (v2 : Int) (v3 : Int) (v4 : Int) (M : bM) : Option ((Int × Int × bM) ⊕ (Int × bM)) :=
  b_g ((0 ≤ v3 ∧ v3 < 30) ∧ (0 ≤ v4 ∧ v4 < 30)) (b_let (b_up M 138 v4 (M 133 v3)) (fun M17 => b_g ((b_i32 (v2 + 1)) ∧ (b_i32 (v3 + 1))) (some (.inl ((v2 + 1), (v3 + 1), M17)))))
theorem t_X2_sortPoints_b70 {l : Launch} {E : bE} {Q : (Int × bM) → Prop} {v1 : Int} {v2 : Int} {v3 : Int} {v4 : Int} {M : bM} (h : b_wp (F_X2_sortPoints_b70 v1 v2 v3 v4 M) (Sum.elim (A_X2_sortPoints_4 l E Q v1) (X_X2_sortPoints_4 l E Q v1))) : V l E xX2_sortPoints (0, 0) 70 [(0, bR 7), (1, bI v1), (2, bI v2), (3, bI v3), (4, bI v4)] [] M (b_pI Q) := by
  unfold F_X2_sortPoints_b70 at h
  obtain ⟨⟨g15, g16⟩, h⟩ := b_wp_g h
  refine v_aload_n (f := 0) 0 rfl dX2_sortPoints_70 ?_
  refine v_getR (kf := 16) (kz := 16) rfl kd_7 rfl ⟨by decide, by decide⟩ rfl wf_2_40 dX2_sortPoints_71 ?_
  refine v_iload (i := 4) 4 rfl dX2_sortPoints_74 ?_
  refine v_aload_n (f := 0) 0 rfl dX2_sortPoints_76 ?_
  refine v_getR (kf := 10) (kz := 10) rfl kd_7 rfl ⟨by decide, by decide⟩ rfl wf_2_23 dX2_sortPoints_77 ?_
  refine v_iload_n (f := 3) 3 rfl dX2_sortPoints_80 ?_
  refine v_iaload kd_133 g15 (by decide) dX2_sortPoints_81 ?_
  refine v_iastore kd_138 g16 (by decide) dX2_sortPoints_82 ?_
  replace h := b_wp_l h
  obtain ⟨⟨g18, g19⟩, h⟩ := b_wp_g h
  refine v_iincN (ls' := [(2, bI _), (0, bR _), (1, bI _), (3, bI _), (4, bI _)]) 2 rfl (by decide) g18 dX2_sortPoints_83 rfl ?_
  refine v_iincN (ls' := [(3, bI _), (2, bI _), (0, bR _), (1, bI _), (4, bI _)]) 3 rfl (by decide) g19 dX2_sortPoints_86 rfl ?_
  refine v_goto (tgt := 4) dX2_sortPoints_89 (by decide) ?_
  refine v_sub (ls2 := [(0, bR _), (1, bI _), (2, bI _), (3, bI _)]) [2, 3, 1, 0] rfl ?_
  exact h
noncomputable def F_X2_sortPoints_s4 (v1 : Int) (v2 : Int) (v3 : Int) (M : bM) : Option ((Int × Int × bM) ⊕ (Int × bM)) :=
  if (M 7 6) ≤ v3 then (some (.inr (v2, M))) else (b_g (0 ≤ v3 ∧ v3 < 30) (if (M 133 v3) < v1 then (b_g (b_i32 (v3 + 1)) (some (.inl (v2, (v3 + 1), M)))) else (b_bind (b_loop (fun t => F_X2_sortPoints_s25 v1 v2 v3 t.1 t.2) (v2, M)) (fun t => F_X2_sortPoints_b70 v1 v2 v3 (t.1) (t.2)))))
theorem t_X2_sortPoints_s4 {l : Launch} {E : bE} {Q : (Int × bM) → Prop} {v1 : Int} {v2 : Int} {v3 : Int} {M : bM} (h : b_wp (F_X2_sortPoints_s4 v1 v2 v3 M) (Sum.elim (A_X2_sortPoints_4 l E Q v1) (X_X2_sortPoints_4 l E Q v1))) : V l E xX2_sortPoints (0, 0) 4 [(0, bR 7), (1, bI v1), (2, bI v2), (3, bI v3)] [] M (b_pI Q) := by
  unfold F_X2_sortPoints_s4 at h
  refine v_iload_n (f := 3) 3 rfl dX2_sortPoints_4 ?_
  refine v_aload_n (f := 0) 0 rfl dX2_sortPoints_5 ?_
  refine v_getI (kf := 6) (kz := 6) rfl kd_7 rfl ⟨by decide, by decide⟩ rfl wf_2_129 dX2_sortPoints_6 ?_
  refine v_icmp_ge (tgt := 92) dX2_sortPoints_9 (by decide) (fun c1 => ?_) (fun c1 => ?_)
  · replace h := b_wp_t c1 h
    refine v_sub (ls2 := [(2, bI _)]) [2] rfl ?_
    exact h
  · replace h := b_wp_f c1 h
    obtain ⟨g2, h⟩ := b_wp_g h
    refine v_aload_n (f := 0) 0 rfl dX2_sortPoints_12 ?_
    refine v_getR (kf := 10) (kz := 10) rfl kd_7 rfl ⟨by decide, by decide⟩ rfl wf_2_23 dX2_sortPoints_13 ?_
    refine v_iload_n (f := 3) 3 rfl dX2_sortPoints_16 ?_
    refine v_iaload kd_133 g2 (by decide) dX2_sortPoints_17 ?_
    refine v_iload_n (f := 1) 1 rfl dX2_sortPoints_18 ?_
    refine v_icmp_lt (tgt := 86) dX2_sortPoints_19 (by decide) (fun c3 => ?_) (fun c3 => ?_)
    · replace h := b_wp_t c3 h
      obtain ⟨g4, h⟩ := b_wp_g h
      refine v_iincN (ls' := [(3, bI _), (0, bR _), (1, bI _), (2, bI _)]) 3 rfl (by decide) g4 dX2_sortPoints_86 rfl ?_
      refine v_goto (tgt := 4) dX2_sortPoints_89 (by decide) ?_
      refine v_sub (ls2 := [(0, bR _), (1, bI _), (2, bI _), (3, bI _)]) [1, 2, 3, 0] rfl ?_
      exact h
    · replace h := b_wp_f c3 h
      refine v_iload_n (f := 2) 2 rfl dX2_sortPoints_22 ?_
      refine v_istore (i := 4) (ls' := [(4, bI _), (0, bR _), (1, bI _), (2, bI _), (3, bI _)]) (by decide) dX2_sortPoints_23 rfl ?_
      refine v_sub (ls2 := [(0, bR _), (1, bI _), (2, bI _), (3, bI _), (4, bI _)]) [1, 2, 3, 4, 0] rfl ?_
      refine l_X2_sortPoints_25 (b_wp_m (fun t h => ?_) (b_wp_b h))
      show V l E xX2_sortPoints (0, 0) 70 [(0, bR 7), (1, bI _), (2, bI _), (3, bI _), (4, bI _)] [] _ (b_pI Q)
      exact t_X2_sortPoints_b70 h
theorem l_X2_sortPoints_4 {l : Launch} {E : bE} {Q : (Int × bM) → Prop} {v1 : Int} {s : Int × Int × bM} (h : b_wp (b_loop (fun t => F_X2_sortPoints_s4 v1 t.1 t.2.1 t.2.2) s) (X_X2_sortPoints_4 l E Q v1)) : A_X2_sortPoints_4 l E Q v1 s := b_loop_wp (fun t h => t_X2_sortPoints_s4 h) s h
noncomputable def F_X2_sortPoints_b92 (v2 : Int) (M : bM) : Option (Int × bM) :=
  some (v2, M)
theorem t_X2_sortPoints_b92 {l : Launch} {E : bE} {Q : (Int × bM) → Prop} {v2 : Int} {M : bM} (h : b_wp (F_X2_sortPoints_b92 v2 M) (Q)) : V l E xX2_sortPoints (0, 0) 92 [(2, bI v2)] [] M (b_pI Q) := by
  unfold F_X2_sortPoints_b92 at h
  refine v_iload_n (f := 2) 0 rfl dX2_sortPoints_92 ?_
  refine v_ireturn rfl dX2_sortPoints_93 ⟨by decide, by decide⟩ ?_
  exact ⟨_, rfl, h⟩
noncomputable def F_X2_sortPoints (v1 : Int) (M : bM) : Option (Int × bM) :=
  b_bind (b_loop (fun t => F_X2_sortPoints_s4 v1 t.1 t.2.1 t.2.2) (0, 0, M)) (fun t => F_X2_sortPoints_b92 (t.1) (t.2))
theorem t_X2_sortPoints {l : Launch} {E : bE} {Q : (Int × bM) → Prop} {v1 : Int} {M : bM} (h : b_wp (F_X2_sortPoints v1 M) (Q)) : V l E xX2_sortPoints (0, 0) 0 [(0, bR 7), (1, bI v1)] [] M (b_pI Q) := by
  unfold F_X2_sortPoints at h
  refine v_iconst ⟨by decide, by decide⟩ dX2_sortPoints_0 ?_
  refine v_istore_n (g := 2) (i := 2) (ls' := [(2, bI _), (0, bR _), (1, bI _)]) rfl (by decide) dX2_sortPoints_1 rfl ?_
  refine v_iconst ⟨by decide, by decide⟩ dX2_sortPoints_2 ?_
  refine v_istore_n (g := 3) (i := 3) (ls' := [(3, bI _), (2, bI _), (0, bR _), (1, bI _)]) rfl (by decide) dX2_sortPoints_3 rfl ?_
  refine v_sub (ls2 := [(0, bR _), (1, bI _), (2, bI _), (3, bI _)]) [2, 3, 1, 0] rfl ?_
  refine l_X2_sortPoints_4 (b_wp_m (fun t h => ?_) (b_wp_b h))
  show V l E xX2_sortPoints (0, 0) 92 [(2, bI _)] [] _ (b_pI Q)
  exact t_X2_sortPoints_b92 h
theorem cf_X2_sortPoints {l : Launch} {E : bE} {M : bM} {v1 : Int} {Q : (Int × bM) → Prop} (h : b_wp (F_X2_sortPoints v1 M) Q) : b_C l E xX2_sortPoints yX2_sortPoints [bR 7, bI v1] M (b_pI Q) := b_met (by decide) ⟨rfl, rfl⟩ (Nat.le_of_ble_eq_true rfl) (fun _ _ => t_X2_sortPoints h)
abbrev xX2_greatestWeakest : bX := ("BurntHall$Chains", prog_4_method_14_code, 6, (Option.some Jvm.ClassFile.FieldType.int), b_rm 4 0 0, 0, "greatestWeakest")
abbrev yX2_greatestWeakest : MethodName := ⟨"BurntHall$Chains", "greatestWeakest", "(I)I"⟩
theorem dX2_greatestWeakest_0 : decode prog_4_method_14_code 0 = .ok (.aload_n 0, 1) := by decide +kernel
theorem dX2_greatestWeakest_1 : decode prog_4_method_14_code 1 = .ok (.iload_n 1, 1) := by decide +kernel
theorem dX2_greatestWeakest_2 : decode prog_4_method_14_code 2 = .ok (.invokevirtual 82, 3) := by decide +kernel
theorem dX2_greatestWeakest_5 : decode prog_4_method_14_code 5 = .ok (.aload_n 0, 1) := by decide +kernel
theorem dX2_greatestWeakest_6 : decode prog_4_method_14_code 6 = .ok (.invokevirtual 86, 3) := by decide +kernel
theorem dX2_greatestWeakest_9 : decode prog_4_method_14_code 9 = .ok (.ifCond .ne 5, 3) := by decide +kernel
theorem dX2_greatestWeakest_12 : decode prog_4_method_14_code 12 = .ok (.iconst (-1), 1) := by decide +kernel
theorem dX2_greatestWeakest_13 : decode prog_4_method_14_code 13 = .ok (.ireturn, 1) := by decide +kernel
theorem dX2_greatestWeakest_14 : decode prog_4_method_14_code 14 = .ok (.iconst 0, 1) := by decide +kernel
theorem dX2_greatestWeakest_15 : decode prog_4_method_14_code 15 = .ok (.istore_n 2, 1) := by decide +kernel
theorem dX2_greatestWeakest_16 : decode prog_4_method_14_code 16 = .ok (.aload_n 0, 1) := by decide +kernel
theorem dX2_greatestWeakest_17 : decode prog_4_method_14_code 17 = .ok (.iload_n 1, 1) := by decide +kernel
theorem dX2_greatestWeakest_18 : decode prog_4_method_14_code 18 = .ok (.invokevirtual 183, 3) := by decide +kernel
theorem dX2_greatestWeakest_21 : decode prog_4_method_14_code 21 = .ok (.iconst 1, 1) := by decide +kernel
theorem dX2_greatestWeakest_22 : decode prog_4_method_14_code 22 = .ok (.isub, 1) := by decide +kernel
theorem dX2_greatestWeakest_23 : decode prog_4_method_14_code 23 = .ok (.istore_n 3, 1) := by decide +kernel
theorem dX2_greatestWeakest_24 : decode prog_4_method_14_code 24 = .ok (.iconst 0, 1) := by decide +kernel
theorem dX2_greatestWeakest_25 : decode prog_4_method_14_code 25 = .ok (.istore 4, 2) := by decide +kernel
theorem dX2_greatestWeakest_27 : decode prog_4_method_14_code 27 = .ok (.iload 4, 2) := by decide +kernel
theorem dX2_greatestWeakest_29 : decode prog_4_method_14_code 29 = .ok (.bipush 30, 2) := by decide +kernel
theorem dX2_greatestWeakest_31 : decode prog_4_method_14_code 31 = .ok (.if_icmp .ge 52, 3) := by decide +kernel
theorem dX2_greatestWeakest_34 : decode prog_4_method_14_code 34 = .ok (.iload_n 2, 1) := by decide +kernel
theorem dX2_greatestWeakest_35 : decode prog_4_method_14_code 35 = .ok (.iload_n 3, 1) := by decide +kernel
theorem dX2_greatestWeakest_36 : decode prog_4_method_14_code 36 = .ok (.if_icmp .ge 47, 3) := by decide +kernel
theorem dX2_greatestWeakest_39 : decode prog_4_method_14_code 39 = .ok (.iload_n 2, 1) := by decide +kernel
theorem dX2_greatestWeakest_40 : decode prog_4_method_14_code 40 = .ok (.iload_n 3, 1) := by decide +kernel
theorem dX2_greatestWeakest_41 : decode prog_4_method_14_code 41 = .ok (.iadd, 1) := by decide +kernel
theorem dX2_greatestWeakest_42 : decode prog_4_method_14_code 42 = .ok (.iconst 1, 1) := by decide +kernel
theorem dX2_greatestWeakest_43 : decode prog_4_method_14_code 43 = .ok (.iadd, 1) := by decide +kernel
theorem dX2_greatestWeakest_44 : decode prog_4_method_14_code 44 = .ok (.iconst 2, 1) := by decide +kernel
theorem dX2_greatestWeakest_45 : decode prog_4_method_14_code 45 = .ok (.idiv, 1) := by decide +kernel
theorem dX2_greatestWeakest_46 : decode prog_4_method_14_code 46 = .ok (.istore 5, 2) := by decide +kernel
theorem dX2_greatestWeakest_48 : decode prog_4_method_14_code 48 = .ok (.aload_n 0, 1) := by decide +kernel
theorem dX2_greatestWeakest_49 : decode prog_4_method_14_code 49 = .ok (.aload_n 0, 1) := by decide +kernel
theorem dX2_greatestWeakest_50 : decode prog_4_method_14_code 50 = .ok (.getfield 40, 3) := by decide +kernel
theorem dX2_greatestWeakest_53 : decode prog_4_method_14_code 53 = .ok (.iload 5, 2) := by decide +kernel
theorem dX2_greatestWeakest_55 : decode prog_4_method_14_code 55 = .ok (.iaload, 1) := by decide +kernel
theorem dX2_greatestWeakest_56 : decode prog_4_method_14_code 56 = .ok (.invokevirtual 82, 3) := by decide +kernel
theorem dX2_greatestWeakest_59 : decode prog_4_method_14_code 59 = .ok (.aload_n 0, 1) := by decide +kernel
theorem dX2_greatestWeakest_60 : decode prog_4_method_14_code 60 = .ok (.invokevirtual 86, 3) := by decide +kernel
theorem dX2_greatestWeakest_63 : decode prog_4_method_14_code 63 = .ok (.ifCond .le 9, 3) := by decide +kernel
theorem dX2_greatestWeakest_66 : decode prog_4_method_14_code 66 = .ok (.iload 5, 2) := by decide +kernel
theorem dX2_greatestWeakest_68 : decode prog_4_method_14_code 68 = .ok (.istore_n 2, 1) := by decide +kernel
theorem dX2_greatestWeakest_69 : decode prog_4_method_14_code 69 = .ok (.goto 8, 3) := by decide +kernel
theorem dX2_greatestWeakest_72 : decode prog_4_method_14_code 72 = .ok (.iload 5, 2) := by decide +kernel
theorem dX2_greatestWeakest_74 : decode prog_4_method_14_code 74 = .ok (.iconst 1, 1) := by decide +kernel
theorem dX2_greatestWeakest_75 : decode prog_4_method_14_code 75 = .ok (.isub, 1) := by decide +kernel
theorem dX2_greatestWeakest_76 : decode prog_4_method_14_code 76 = .ok (.istore_n 3, 1) := by decide +kernel
theorem dX2_greatestWeakest_77 : decode prog_4_method_14_code 77 = .ok (.iinc 4 1, 3) := by decide +kernel
theorem dX2_greatestWeakest_80 : decode prog_4_method_14_code 80 = .ok (.goto (-53), 3) := by decide +kernel
theorem dX2_greatestWeakest_83 : decode prog_4_method_14_code 83 = .ok (.aload_n 0, 1) := by decide +kernel
theorem dX2_greatestWeakest_84 : decode prog_4_method_14_code 84 = .ok (.getfield 40, 3) := by decide +kernel
theorem dX2_greatestWeakest_87 : decode prog_4_method_14_code 87 = .ok (.iload_n 2, 1) := by decide +kernel
theorem dX2_greatestWeakest_88 : decode prog_4_method_14_code 88 = .ok (.iaload, 1) := by decide +kernel
theorem dX2_greatestWeakest_89 : decode prog_4_method_14_code 89 = .ok (.ireturn, 1) := by decide +kernel
abbrev A_X2_greatestWeakest_27 (l : Launch) (E : bE) (Q : (Int × bM) → Prop) : (Int × Int × Int × bM) → Prop := (fun t : Int × Int × Int × bM => V l E xX2_greatestWeakest (0, 0) 27 [(0, bR 7), (2, bI (t.1)), (3, bI (t.2.1)), (4, bI (t.2.2.1))] [] t.2.2.2 (b_pI Q))
abbrev X_X2_greatestWeakest_27 (l : Launch) (E : bE) (Q : (Int × bM) → Prop) : (Int × bM) → Prop := (fun t : Int × bM => V l E xX2_greatestWeakest (0, 0) 83 [(0, bR 7), (2, bI (t.1))] [] t.2 (b_pI Q))
noncomputable def F_X2_greatestWeakest_s27 (v2 : Int) (v3 : Int) (v4 : Int) (M : bM) : Option ((Int × Int × Int × bM) ⊕ (Int × bM)) :=
  if 30 ≤ v4 then (some (.inr (v2, M))) else (if v3 ≤ v2 then (some (.inr (v2, M))) else (b_g ((b_i32 (v2 + v3)) ∧ (b_i32 ((v2 + v3) + 1))) (b_let ((i_div ((v2 + v3) + 1) 2)) (fun y11 => b_g (0 ≤ y11 ∧ y11 < 30) (b_bind (F_X2_fill (M 138 y11) M) (fun M13 => b_bind (F_X2_shortest M13) (fun x14 => if x14 ≤ 0 then (b_g ((b_i32 (y11 - 1)) ∧ (b_i32 (v4 + 1))) (some (.inl (v2, (y11 - 1), (v4 + 1), M13)))) else (b_g (b_i32 (v4 + 1)) (some (.inl (y11, v3, (v4 + 1), M13)))))))))))
theorem t_X2_greatestWeakest_s27 {l : Launch} {E : bE} {Q : (Int × bM) → Prop} {v2 : Int} {v3 : Int} {v4 : Int} {M : bM} (h : b_wp (F_X2_greatestWeakest_s27 v2 v3 v4 M) (Sum.elim (A_X2_greatestWeakest_27 l E Q ) (X_X2_greatestWeakest_27 l E Q ))) : V l E xX2_greatestWeakest (0, 0) 27 [(0, bR 7), (2, bI v2), (3, bI v3), (4, bI v4)] [] M (b_pI Q) := by
  unfold F_X2_greatestWeakest_s27 at h
  refine v_iload (i := 4) 3 rfl dX2_greatestWeakest_27 ?_
  refine v_bipush ⟨by decide, by decide⟩ (by decide) dX2_greatestWeakest_29 ?_
  refine v_icmp_ge (tgt := 83) dX2_greatestWeakest_31 (by decide) (fun c7 => ?_) (fun c7 => ?_)
  · replace h := b_wp_t c7 h
    refine v_sub (ls2 := [(0, bR _), (2, bI _)]) [0, 1] rfl ?_
    exact h
  · replace h := b_wp_f c7 h
    refine v_iload_n (f := 2) 1 rfl dX2_greatestWeakest_34 ?_
    refine v_iload_n (f := 3) 2 rfl dX2_greatestWeakest_35 ?_
    refine v_icmp_ge (tgt := 83) dX2_greatestWeakest_36 (by decide) (fun c8 => ?_) (fun c8 => ?_)
    · replace h := b_wp_t c8 h
      refine v_sub (ls2 := [(0, bR _), (2, bI _)]) [0, 1] rfl ?_
      exact h
    · replace h := b_wp_f c8 h
      obtain ⟨⟨g9, g10⟩, h⟩ := b_wp_g h
      refine v_iload_n (f := 2) 1 rfl dX2_greatestWeakest_39 ?_
      refine v_iload_n (f := 3) 2 rfl dX2_greatestWeakest_40 ?_
      refine v_iaddN g9 dX2_greatestWeakest_41 ?_
      refine v_iconst ⟨by decide, by decide⟩ dX2_greatestWeakest_42 ?_
      refine v_iaddN g10 dX2_greatestWeakest_43 ?_
      refine v_iconst ⟨by decide, by decide⟩ dX2_greatestWeakest_44 ?_
      refine v_idiv (v := i_div _ _) (by decide) rfl dX2_greatestWeakest_45 ?_
      replace h := b_wp_l h
      obtain ⟨g12, h⟩ := b_wp_g h
      refine v_istore (i := 5) (ls' := [(5, bI _), (0, bR _), (2, bI _), (3, bI _), (4, bI _)]) (by decide) dX2_greatestWeakest_46 rfl ?_
      refine v_aload_n (f := 0) 1 rfl dX2_greatestWeakest_48 ?_
      refine v_aload_n (f := 0) 1 rfl dX2_greatestWeakest_49 ?_
      refine v_getR (kf := 16) (kz := 16) rfl kd_7 rfl ⟨by decide, by decide⟩ rfl wf_2_40 dX2_greatestWeakest_50 ?_
      refine v_iload (i := 5) 0 rfl dX2_greatestWeakest_53 ?_
      refine v_iaload kd_138 g12 (by decide) dX2_greatestWeakest_55 ?_
      refine v_cVV (nA := 1) (As := [bI _]) (ix := 82) (cf_X2_fill (b_wp_b h)) rfl kd_7 rfl rfl wc_X2_fill wm_2_82 wi_X2_fill ws_X2_fill wn_2 ⟨by decide, by decide, by decide⟩ rfl ⟨by decide, by decide⟩ ⟨by decide, by decide⟩ (Nat.le_of_ble_eq_true rfl) dX2_greatestWeakest_56 (fun M13 h => ?_)
      refine v_aload_n (f := 0) 1 rfl dX2_greatestWeakest_59 ?_
      refine v_cVIp (nA := 0) (As := []) (ix := 86) (cf_X2_shortest (b_wp_b h)) rfl kd_7 rfl rfl wc_X2_shortest wm_2_86 wi_X2_shortest ws_X2_shortest wn_2 ⟨by decide, by decide, by decide⟩ rfl ⟨by decide, by decide⟩ ⟨by decide, by decide⟩ (Nat.le_of_ble_eq_true rfl) dX2_greatestWeakest_60 (fun x14 h => ?_)
      refine v_if_le (tgt := 72) dX2_greatestWeakest_63 (by decide) (fun c15 => ?_) (fun c15 => ?_)
      · replace h := b_wp_t c15 h
        obtain ⟨⟨g16, g17⟩, h⟩ := b_wp_g h
        refine v_iload (i := 5) 0 rfl dX2_greatestWeakest_72 ?_
        refine v_iconst ⟨by decide, by decide⟩ dX2_greatestWeakest_74 ?_
        refine v_isubN g16 dX2_greatestWeakest_75 ?_
        refine v_istore_n (g := 3) (i := 3) (ls' := [(3, bI _), (5, bI _), (0, bR _), (2, bI _), (4, bI _)]) rfl (by decide) dX2_greatestWeakest_76 rfl ?_
        refine v_iincN (ls' := [(4, bI _), (3, bI _), (5, bI _), (0, bR _), (2, bI _)]) 4 rfl (by decide) g17 dX2_greatestWeakest_77 rfl ?_
        refine v_goto (tgt := 27) dX2_greatestWeakest_80 (by decide) ?_
        refine v_sub (ls2 := [(0, bR _), (2, bI _), (3, bI _), (4, bI _)]) [3, 4, 1, 0] rfl ?_
        exact h
      · replace h := b_wp_f c15 h
        obtain ⟨g18, h⟩ := b_wp_g h
        refine v_iload (i := 5) 0 rfl dX2_greatestWeakest_66 ?_
        refine v_istore_n (g := 2) (i := 2) (ls' := [(2, bI _), (5, bI _), (0, bR _), (3, bI _), (4, bI _)]) rfl (by decide) dX2_greatestWeakest_68 rfl ?_
        refine v_goto (tgt := 77) dX2_greatestWeakest_69 (by decide) ?_
        refine v_iincN (ls' := [(4, bI _), (2, bI _), (5, bI _), (0, bR _), (3, bI _)]) 4 rfl (by decide) g18 dX2_greatestWeakest_77 rfl ?_
        refine v_goto (tgt := 27) dX2_greatestWeakest_80 (by decide) ?_
        refine v_sub (ls2 := [(0, bR _), (2, bI _), (3, bI _), (4, bI _)]) [3, 1, 4, 0] rfl ?_
        exact h
theorem l_X2_greatestWeakest_27 {l : Launch} {E : bE} {Q : (Int × bM) → Prop} {s : Int × Int × Int × bM} (h : b_wp (b_loop (fun t => F_X2_greatestWeakest_s27 t.1 t.2.1 t.2.2.1 t.2.2.2) s) (X_X2_greatestWeakest_27 l E Q )) : A_X2_greatestWeakest_27 l E Q  s := b_loop_wp (fun t h => t_X2_greatestWeakest_s27 h) s h
noncomputable def F_X2_greatestWeakest_b83 (v2 : Int) (M : bM) : Option (Int × bM) :=
  b_g (0 ≤ v2 ∧ v2 < 30) (some ((M 138 v2), M))
theorem t_X2_greatestWeakest_b83 {l : Launch} {E : bE} {Q : (Int × bM) → Prop} {v2 : Int} {M : bM} (h : b_wp (F_X2_greatestWeakest_b83 v2 M) (Q)) : V l E xX2_greatestWeakest (0, 0) 83 [(0, bR 7), (2, bI v2)] [] M (b_pI Q) := by
  unfold F_X2_greatestWeakest_b83 at h
  obtain ⟨g19, h⟩ := b_wp_g h
  refine v_aload_n (f := 0) 0 rfl dX2_greatestWeakest_83 ?_
  refine v_getR (kf := 16) (kz := 16) rfl kd_7 rfl ⟨by decide, by decide⟩ rfl wf_2_40 dX2_greatestWeakest_84 ?_
  refine v_iload_n (f := 2) 1 rfl dX2_greatestWeakest_87 ?_
  refine v_iaload kd_138 g19 (by decide) dX2_greatestWeakest_88 ?_
  refine v_ireturn rfl dX2_greatestWeakest_89 ⟨by decide, by decide⟩ ?_
  exact ⟨_, rfl, h⟩
noncomputable def F_X2_greatestWeakest (v1 : Int) (M : bM) : Option (Int × bM) :=
  b_bind (F_X2_fill v1 M) (fun M1 => b_bind (F_X2_shortest M1) (fun x2 => if x2 = 0 then (some ((-1), M1)) else (b_bind (F_X2_sortPoints v1 M1) (fun t => b_two t (fun x4 M5 => b_g (b_i32 (x4 - 1)) (b_bind (b_loop (fun t => F_X2_greatestWeakest_s27 t.1 t.2.1 t.2.2.1 t.2.2.2) (0, (x4 - 1), 0, M5)) (fun t => F_X2_greatestWeakest_b83 (t.1) (t.2))))))))
theorem t_X2_greatestWeakest {l : Launch} {E : bE} {Q : (Int × bM) → Prop} {v1 : Int} {M : bM} (h : b_wp (F_X2_greatestWeakest v1 M) (Q)) : V l E xX2_greatestWeakest (0, 0) 0 [(0, bR 7), (1, bI v1)] [] M (b_pI Q) := by
  unfold F_X2_greatestWeakest at h
  refine v_aload_n (f := 0) 0 rfl dX2_greatestWeakest_0 ?_
  refine v_iload_n (f := 1) 1 rfl dX2_greatestWeakest_1 ?_
  refine v_cVV (nA := 1) (As := [bI _]) (ix := 82) (cf_X2_fill (b_wp_b h)) rfl kd_7 rfl rfl wc_X2_fill wm_2_82 wi_X2_fill ws_X2_fill wn_2 ⟨by decide, by decide, by decide⟩ rfl ⟨by decide, by decide⟩ ⟨by decide, by decide⟩ (Nat.le_of_ble_eq_true rfl) dX2_greatestWeakest_2 (fun M1 h => ?_)
  refine v_aload_n (f := 0) 0 rfl dX2_greatestWeakest_5 ?_
  refine v_cVIp (nA := 0) (As := []) (ix := 86) (cf_X2_shortest (b_wp_b h)) rfl kd_7 rfl rfl wc_X2_shortest wm_2_86 wi_X2_shortest ws_X2_shortest wn_2 ⟨by decide, by decide, by decide⟩ rfl ⟨by decide, by decide⟩ ⟨by decide, by decide⟩ (Nat.le_of_ble_eq_true rfl) dX2_greatestWeakest_6 (fun x2 h => ?_)
  refine v_if_ne (tgt := 14) dX2_greatestWeakest_9 (by decide) (fun c3 => ?_) (fun c3 => ?_)
  · replace h := b_wp_f c3 h
    refine v_iconst ⟨by decide, by decide⟩ dX2_greatestWeakest_14 ?_
    refine v_istore_n (g := 2) (i := 2) (ls' := [(2, bI _), (0, bR _), (1, bI _)]) rfl (by decide) dX2_greatestWeakest_15 rfl ?_
    refine v_aload_n (f := 0) 1 rfl dX2_greatestWeakest_16 ?_
    refine v_iload_n (f := 1) 2 rfl dX2_greatestWeakest_17 ?_
    refine v_cVI (nA := 1) (As := [bI _]) (ix := 183) (cf_X2_sortPoints (b_wp_b h)) rfl kd_7 rfl rfl wc_X2_sortPoints wm_2_183 wi_X2_sortPoints ws_X2_sortPoints wn_2 ⟨by decide, by decide, by decide⟩ rfl ⟨by decide, by decide⟩ ⟨by decide, by decide⟩ (Nat.le_of_ble_eq_true rfl) dX2_greatestWeakest_18 (fun x4 M5 h => ?_)
    replace h := b_wp_two h
    obtain ⟨g6, h⟩ := b_wp_g h
    refine v_iconst ⟨by decide, by decide⟩ dX2_greatestWeakest_21 ?_
    refine v_isubN g6 dX2_greatestWeakest_22 ?_
    refine v_istore_n (g := 3) (i := 3) (ls' := [(3, bI _), (2, bI _), (0, bR _), (1, bI _)]) rfl (by decide) dX2_greatestWeakest_23 rfl ?_
    refine v_iconst ⟨by decide, by decide⟩ dX2_greatestWeakest_24 ?_
    refine v_istore (i := 4) (ls' := [(4, bI _), (3, bI _), (2, bI _), (0, bR _), (1, bI _)]) (by decide) dX2_greatestWeakest_25 rfl ?_
    refine v_sub (ls2 := [(0, bR _), (2, bI _), (3, bI _), (4, bI _)]) [3, 2, 1, 0] rfl ?_
    refine l_X2_greatestWeakest_27 (b_wp_m (fun t h => ?_) (b_wp_b h))
    show V l E xX2_greatestWeakest (0, 0) 83 [(0, bR 7), (2, bI _)] [] _ (b_pI Q)
    exact t_X2_greatestWeakest_b83 h
  · replace h := b_wp_t c3 h
    refine v_iconst ⟨by decide, by decide⟩ dX2_greatestWeakest_12 ?_
    refine v_ireturn rfl dX2_greatestWeakest_13 ⟨by decide, by decide⟩ ?_
    exact ⟨_, rfl, h⟩
theorem cf_X2_greatestWeakest {l : Launch} {E : bE} {M : bM} {v1 : Int} {Q : (Int × bM) → Prop} (h : b_wp (F_X2_greatestWeakest v1 M) Q) : b_C l E xX2_greatestWeakest yX2_greatestWeakest [bR 7, bI v1] M (b_pI Q) := b_met (by decide) ⟨rfl, rfl⟩ (Nat.le_of_ble_eq_true rfl) (fun _ _ => t_X2_greatestWeakest h)
abbrev xX2_tell : bX := ("BurntHall$Chains", prog_4_method_5_code, 5, (Option.none : Option Jvm.ClassFile.FieldType), b_rm 1 0 0, 0, "tell")
abbrev yX2_tell : MethodName := ⟨"BurntHall$Chains", "tell", "(IIII)V"⟩
theorem dX2_tell_0 : decode prog_4_method_5_code 0 = .ok (.aload_n 0, 1) := by decide +kernel
theorem dX2_tell_1 : decode prog_4_method_5_code 1 = .ok (.getfield 46, 3) := by decide +kernel
theorem dX2_tell_4 : decode prog_4_method_5_code 4 = .ok (.iconst 0, 1) := by decide +kernel
theorem dX2_tell_5 : decode prog_4_method_5_code 5 = .ok (.iload_n 1, 1) := by decide +kernel
theorem dX2_tell_6 : decode prog_4_method_5_code 6 = .ok (.iastore, 1) := by decide +kernel
theorem dX2_tell_7 : decode prog_4_method_5_code 7 = .ok (.aload_n 0, 1) := by decide +kernel
theorem dX2_tell_8 : decode prog_4_method_5_code 8 = .ok (.getfield 46, 3) := by decide +kernel
theorem dX2_tell_11 : decode prog_4_method_5_code 11 = .ok (.iconst 1, 1) := by decide +kernel
theorem dX2_tell_12 : decode prog_4_method_5_code 12 = .ok (.iload_n 2, 1) := by decide +kernel
theorem dX2_tell_13 : decode prog_4_method_5_code 13 = .ok (.iastore, 1) := by decide +kernel
theorem dX2_tell_14 : decode prog_4_method_5_code 14 = .ok (.aload_n 0, 1) := by decide +kernel
theorem dX2_tell_15 : decode prog_4_method_5_code 15 = .ok (.getfield 46, 3) := by decide +kernel
theorem dX2_tell_18 : decode prog_4_method_5_code 18 = .ok (.iconst 2, 1) := by decide +kernel
theorem dX2_tell_19 : decode prog_4_method_5_code 19 = .ok (.iload_n 3, 1) := by decide +kernel
theorem dX2_tell_20 : decode prog_4_method_5_code 20 = .ok (.iastore, 1) := by decide +kernel
theorem dX2_tell_21 : decode prog_4_method_5_code 21 = .ok (.aload_n 0, 1) := by decide +kernel
theorem dX2_tell_22 : decode prog_4_method_5_code 22 = .ok (.getfield 46, 3) := by decide +kernel
theorem dX2_tell_25 : decode prog_4_method_5_code 25 = .ok (.iconst 3, 1) := by decide +kernel
theorem dX2_tell_26 : decode prog_4_method_5_code 26 = .ok (.iload 4, 2) := by decide +kernel
theorem dX2_tell_28 : decode prog_4_method_5_code 28 = .ok (.iastore, 1) := by decide +kernel
theorem dX2_tell_29 : decode prog_4_method_5_code 29 = .ok (.return_, 1) := by decide +kernel
noncomputable def F_X2_tell (v1 : Int) (v2 : Int) (v3 : Int) (v4 : Int) (M : bM) : Option (bM) :=
  b_let (b_up M 140 0 v1) (fun M1 => b_let (b_up M1 140 1 v2) (fun M2 => b_let (b_up M2 140 2 v3) (fun M3 => b_let (b_up M3 140 3 v4) (fun M4 => some M4))))
theorem t_X2_tell {l : Launch} {E : bE} {Q : bM → Prop} {v1 : Int} {v2 : Int} {v3 : Int} {v4 : Int} {M : bM} (h : b_wp (F_X2_tell v1 v2 v3 v4 M) (Q)) : V l E xX2_tell (0, 0) 0 [(0, bR 7), (1, bI v1), (2, bI v2), (3, bI v3), (4, bI v4)] [] M (b_pV Q) := by
  unfold F_X2_tell at h
  refine v_aload_n (f := 0) 0 rfl dX2_tell_0 ?_
  refine v_getR (kf := 18) (kz := 18) rfl kd_7 rfl ⟨by decide, by decide⟩ rfl wf_2_46 dX2_tell_1 ?_
  refine v_iconst ⟨by decide, by decide⟩ dX2_tell_4 ?_
  refine v_iload_n (f := 1) 1 rfl dX2_tell_5 ?_
  refine v_iastore kd_140 ⟨by decide, by decide⟩ (by decide) dX2_tell_6 ?_
  replace h := b_wp_l h
  refine v_aload_n (f := 0) 0 rfl dX2_tell_7 ?_
  refine v_getR (kf := 18) (kz := 18) rfl kd_7 rfl ⟨by decide, by decide⟩ rfl wf_2_46 dX2_tell_8 ?_
  refine v_iconst ⟨by decide, by decide⟩ dX2_tell_11 ?_
  refine v_iload_n (f := 2) 2 rfl dX2_tell_12 ?_
  refine v_iastore kd_140 ⟨by decide, by decide⟩ (by decide) dX2_tell_13 ?_
  replace h := b_wp_l h
  refine v_aload_n (f := 0) 0 rfl dX2_tell_14 ?_
  refine v_getR (kf := 18) (kz := 18) rfl kd_7 rfl ⟨by decide, by decide⟩ rfl wf_2_46 dX2_tell_15 ?_
  refine v_iconst ⟨by decide, by decide⟩ dX2_tell_18 ?_
  refine v_iload_n (f := 3) 3 rfl dX2_tell_19 ?_
  refine v_iastore kd_140 ⟨by decide, by decide⟩ (by decide) dX2_tell_20 ?_
  replace h := b_wp_l h
  refine v_aload_n (f := 0) 0 rfl dX2_tell_21 ?_
  refine v_getR (kf := 18) (kz := 18) rfl kd_7 rfl ⟨by decide, by decide⟩ rfl wf_2_46 dX2_tell_22 ?_
  refine v_iconst ⟨by decide, by decide⟩ dX2_tell_25 ?_
  refine v_iload (i := 4) 4 rfl dX2_tell_26 ?_
  refine v_iastore kd_140 ⟨by decide, by decide⟩ (by decide) dX2_tell_28 ?_
  replace h := b_wp_l h
  refine v_return rfl dX2_tell_29 ⟨by decide, by decide⟩ ?_
  exact ⟨rfl, h⟩
theorem cf_X2_tell {l : Launch} {E : bE} {M : bM} {v1 : Int} {v2 : Int} {v3 : Int} {v4 : Int} {Q : bM → Prop} (h : b_wp (F_X2_tell v1 v2 v3 v4 M) Q) : b_C l E xX2_tell yX2_tell [bR 7, bI v1, bI v2, bI v3, bI v4] M (b_pV Q) := b_met (by decide) ⟨rfl, rfl⟩ (Nat.le_of_ble_eq_true rfl) (fun _ _ => t_X2_tell h)
abbrev xX2_takeLinkWithGap : bX := ("BurntHall$Chains", prog_4_method_13_code, 4, (Option.some Jvm.ClassFile.FieldType.boolean), b_rm 2 0 0, 0, "takeLinkWithGap")
abbrev yX2_takeLinkWithGap : MethodName := ⟨"BurntHall$Chains", "takeLinkWithGap", "()Z"⟩
theorem dX2_takeLinkWithGap_0 : decode prog_4_method_13_code 0 = .ok (.iconst (-1), 1) := by decide +kernel
theorem dX2_takeLinkWithGap_1 : decode prog_4_method_13_code 1 = .ok (.istore_n 1, 1) := by decide +kernel
theorem dX2_takeLinkWithGap_2 : decode prog_4_method_13_code 2 = .ok (.iconst 0, 1) := by decide +kernel
theorem dX2_takeLinkWithGap_3 : decode prog_4_method_13_code 3 = .ok (.istore_n 2, 1) := by decide +kernel
theorem dX2_takeLinkWithGap_4 : decode prog_4_method_13_code 4 = .ok (.iload_n 2, 1) := by decide +kernel
theorem dX2_takeLinkWithGap_5 : decode prog_4_method_13_code 5 = .ok (.aload_n 0, 1) := by decide +kernel
theorem dX2_takeLinkWithGap_6 : decode prog_4_method_13_code 6 = .ok (.getfield 56, 3) := by decide +kernel
theorem dX2_takeLinkWithGap_9 : decode prog_4_method_13_code 9 = .ok (.getfield 160, 3) := by decide +kernel
theorem dX2_takeLinkWithGap_12 : decode prog_4_method_13_code 12 = .ok (.if_icmp .ge 96, 3) := by decide +kernel
theorem dX2_takeLinkWithGap_15 : decode prog_4_method_13_code 15 = .ok (.iconst 0, 1) := by decide +kernel
theorem dX2_takeLinkWithGap_16 : decode prog_4_method_13_code 16 = .ok (.istore_n 3, 1) := by decide +kernel
theorem dX2_takeLinkWithGap_17 : decode prog_4_method_13_code 17 = .ok (.iload_n 3, 1) := by decide +kernel
theorem dX2_takeLinkWithGap_18 : decode prog_4_method_13_code 18 = .ok (.aload_n 0, 1) := by decide +kernel
theorem dX2_takeLinkWithGap_19 : decode prog_4_method_13_code 19 = .ok (.getfield 129, 3) := by decide +kernel
theorem dX2_takeLinkWithGap_22 : decode prog_4_method_13_code 22 = .ok (.if_icmp .ge 80, 3) := by decide +kernel
theorem dX2_takeLinkWithGap_25 : decode prog_4_method_13_code 25 = .ok (.aload_n 0, 1) := by decide +kernel
theorem dX2_takeLinkWithGap_26 : decode prog_4_method_13_code 26 = .ok (.iload_n 2, 1) := by decide +kernel
theorem dX2_takeLinkWithGap_27 : decode prog_4_method_13_code 27 = .ok (.invokevirtual 174, 3) := by decide +kernel
theorem dX2_takeLinkWithGap_30 : decode prog_4_method_13_code 30 = .ok (.ifCond .eq 72, 3) := by decide +kernel
theorem dX2_takeLinkWithGap_33 : decode prog_4_method_13_code 33 = .ok (.aload_n 0, 1) := by decide +kernel
theorem dX2_takeLinkWithGap_34 : decode prog_4_method_13_code 34 = .ok (.iload_n 3, 1) := by decide +kernel
theorem dX2_takeLinkWithGap_35 : decode prog_4_method_13_code 35 = .ok (.invokevirtual 177, 3) := by decide +kernel
theorem dX2_takeLinkWithGap_38 : decode prog_4_method_13_code 38 = .ok (.ifCond .eq 58, 3) := by decide +kernel
theorem dX2_takeLinkWithGap_41 : decode prog_4_method_13_code 41 = .ok (.aload_n 0, 1) := by decide +kernel
theorem dX2_takeLinkWithGap_42 : decode prog_4_method_13_code 42 = .ok (.getfield 56, 3) := by decide +kernel
theorem dX2_takeLinkWithGap_45 : decode prog_4_method_13_code 45 = .ok (.getfield 180, 3) := by decide +kernel
theorem dX2_takeLinkWithGap_48 : decode prog_4_method_13_code 48 = .ok (.iload_n 2, 1) := by decide +kernel
theorem dX2_takeLinkWithGap_49 : decode prog_4_method_13_code 49 = .ok (.iaload, 1) := by decide +kernel
theorem dX2_takeLinkWithGap_50 : decode prog_4_method_13_code 50 = .ok (.aload_n 0, 1) := by decide +kernel
theorem dX2_takeLinkWithGap_51 : decode prog_4_method_13_code 51 = .ok (.getfield 20, 3) := by decide +kernel
theorem dX2_takeLinkWithGap_54 : decode prog_4_method_13_code 54 = .ok (.iload_n 3, 1) := by decide +kernel
theorem dX2_takeLinkWithGap_55 : decode prog_4_method_13_code 55 = .ok (.iaload, 1) := by decide +kernel
theorem dX2_takeLinkWithGap_56 : decode prog_4_method_13_code 56 = .ok (.if_icmp .gt 40, 3) := by decide +kernel
theorem dX2_takeLinkWithGap_59 : decode prog_4_method_13_code 59 = .ok (.aload_n 0, 1) := by decide +kernel
theorem dX2_takeLinkWithGap_60 : decode prog_4_method_13_code 60 = .ok (.getfield 23, 3) := by decide +kernel
theorem dX2_takeLinkWithGap_63 : decode prog_4_method_13_code 63 = .ok (.iload_n 3, 1) := by decide +kernel
theorem dX2_takeLinkWithGap_64 : decode prog_4_method_13_code 64 = .ok (.iaload, 1) := by decide +kernel
theorem dX2_takeLinkWithGap_65 : decode prog_4_method_13_code 65 = .ok (.iload_n 1, 1) := by decide +kernel
theorem dX2_takeLinkWithGap_66 : decode prog_4_method_13_code 66 = .ok (.if_icmp .le 30, 3) := by decide +kernel
theorem dX2_takeLinkWithGap_69 : decode prog_4_method_13_code 69 = .ok (.aload_n 0, 1) := by decide +kernel
theorem dX2_takeLinkWithGap_70 : decode prog_4_method_13_code 70 = .ok (.getfield 23, 3) := by decide +kernel
theorem dX2_takeLinkWithGap_73 : decode prog_4_method_13_code 73 = .ok (.iload_n 3, 1) := by decide +kernel
theorem dX2_takeLinkWithGap_74 : decode prog_4_method_13_code 74 = .ok (.iaload, 1) := by decide +kernel
theorem dX2_takeLinkWithGap_75 : decode prog_4_method_13_code 75 = .ok (.istore_n 1, 1) := by decide +kernel
theorem dX2_takeLinkWithGap_76 : decode prog_4_method_13_code 76 = .ok (.aload_n 0, 1) := by decide +kernel
theorem dX2_takeLinkWithGap_77 : decode prog_4_method_13_code 77 = .ok (.iconst 1, 1) := by decide +kernel
theorem dX2_takeLinkWithGap_78 : decode prog_4_method_13_code 78 = .ok (.iload_n 1, 1) := by decide +kernel
theorem dX2_takeLinkWithGap_79 : decode prog_4_method_13_code 79 = .ok (.iconst 1, 1) := by decide +kernel
theorem dX2_takeLinkWithGap_80 : decode prog_4_method_13_code 80 = .ok (.iload_n 2, 1) := by decide +kernel
theorem dX2_takeLinkWithGap_81 : decode prog_4_method_13_code 81 = .ok (.invokevirtual 92, 3) := by decide +kernel
theorem dX2_takeLinkWithGap_84 : decode prog_4_method_13_code 84 = .ok (.aload_n 0, 1) := by decide +kernel
theorem dX2_takeLinkWithGap_85 : decode prog_4_method_13_code 85 = .ok (.getfield 46, 3) := by decide +kernel
theorem dX2_takeLinkWithGap_88 : decode prog_4_method_13_code 88 = .ok (.iconst 4, 1) := by decide +kernel
theorem dX2_takeLinkWithGap_89 : decode prog_4_method_13_code 89 = .ok (.aload_n 0, 1) := by decide +kernel
theorem dX2_takeLinkWithGap_90 : decode prog_4_method_13_code 90 = .ok (.getfield 13, 3) := by decide +kernel
theorem dX2_takeLinkWithGap_93 : decode prog_4_method_13_code 93 = .ok (.iload_n 3, 1) := by decide +kernel
theorem dX2_takeLinkWithGap_94 : decode prog_4_method_13_code 94 = .ok (.iaload, 1) := by decide +kernel
theorem dX2_takeLinkWithGap_95 : decode prog_4_method_13_code 95 = .ok (.iastore, 1) := by decide +kernel
theorem dX2_takeLinkWithGap_96 : decode prog_4_method_13_code 96 = .ok (.iinc 3 1, 3) := by decide +kernel
theorem dX2_takeLinkWithGap_99 : decode prog_4_method_13_code 99 = .ok (.goto (-82), 3) := by decide +kernel
theorem dX2_takeLinkWithGap_102 : decode prog_4_method_13_code 102 = .ok (.iinc 2 1, 3) := by decide +kernel
theorem dX2_takeLinkWithGap_105 : decode prog_4_method_13_code 105 = .ok (.goto (-101), 3) := by decide +kernel
theorem dX2_takeLinkWithGap_108 : decode prog_4_method_13_code 108 = .ok (.iload_n 1, 1) := by decide +kernel
theorem dX2_takeLinkWithGap_109 : decode prog_4_method_13_code 109 = .ok (.iconst (-1), 1) := by decide +kernel
theorem dX2_takeLinkWithGap_110 : decode prog_4_method_13_code 110 = .ok (.if_icmp .eq 7, 3) := by decide +kernel
theorem dX2_takeLinkWithGap_113 : decode prog_4_method_13_code 113 = .ok (.iconst 1, 1) := by decide +kernel
theorem dX2_takeLinkWithGap_114 : decode prog_4_method_13_code 114 = .ok (.goto 4, 3) := by decide +kernel
theorem dX2_takeLinkWithGap_117 : decode prog_4_method_13_code 117 = .ok (.iconst 0, 1) := by decide +kernel
theorem dX2_takeLinkWithGap_118 : decode prog_4_method_13_code 118 = .ok (.ireturn, 1) := by decide +kernel
abbrev A_X2_takeLinkWithGap_4 (l : Launch) (E : bE) (Q : (Int × bM) → Prop) : (Int × Int × bM) → Prop := (fun t : Int × Int × bM => V l E xX2_takeLinkWithGap (0, 0) 4 [(0, bR 7), (1, bI (t.1)), (2, bI (t.2.1))] [] t.2.2 (b_pI Q))
abbrev X_X2_takeLinkWithGap_4 (l : Launch) (E : bE) (Q : (Int × bM) → Prop) : (Int × bM) → Prop := (fun t : Int × bM => V l E xX2_takeLinkWithGap (0, 0) 108 [(1, bI (t.1))] [] t.2 (b_pI Q))
abbrev A_X2_takeLinkWithGap_17 (l : Launch) (E : bE) (Q : (Int × bM) → Prop) (v2 : Int) : (Int × Int × bM) → Prop := (fun t : Int × Int × bM => V l E xX2_takeLinkWithGap (0, 0) 17 [(0, bR 7), (1, bI (t.1)), (2, bI v2), (3, bI (t.2.1))] [] t.2.2 (b_pI Q))
abbrev X_X2_takeLinkWithGap_17 (l : Launch) (E : bE) (Q : (Int × bM) → Prop) (v2 : Int) : (Int × bM) → Prop := (fun t : Int × bM => V l E xX2_takeLinkWithGap (0, 0) 102 [(0, bR 7), (1, bI (t.1)), (2, bI v2)] [] t.2 (b_pI Q))
noncomputable def F_X2_takeLinkWithGap_s17 (v1 : Int) (v2 : Int) (v3 : Int) (M : bM) : Option ((Int × Int × bM) ⊕ (Int × bM)) :=
  if (M 7 6) ≤ v3 then (some (.inr (v1, M))) else (b_bind (F_X2_isRoot v2 M) (fun x3 => if x3 = 0 then (some (.inr (v1, M))) else (b_bind (F_X2_isEnder v3 M) (fun x5 => if x5 = 0 then (b_g (b_i32 (v3 + 1)) (some (.inl (v1, (v3 + 1), M)))) else (b_g ((0 ≤ v2 ∧ v2 < 60) ∧ (0 ≤ v3 ∧ v3 < 30)) (if (M 132 v3) < (M 93 v2) then (b_g (b_i32 (v3 + 1)) (some (.inl (v1, (v3 + 1), M)))) else (b_g (0 ≤ v3 ∧ v3 < 30) (if (M 133 v3) ≤ v1 then (b_g (b_i32 (v3 + 1)) (some (.inl (v1, (v3 + 1), M)))) else (b_g (0 ≤ v3 ∧ v3 < 30) (b_let ((M 133 v3)) (fun y16 => b_bind (F_X2_tell 1 y16 1 v2 M) (fun M17 => b_g (0 ≤ v3 ∧ v3 < 30) (b_let (b_up M17 140 4 (M17 130 v3)) (fun M19 => b_g (b_i32 (v3 + 1)) (some (.inl (y16, (v3 + 1), M19)))))))))))))))))
theorem t_X2_takeLinkWithGap_s17 {l : Launch} {E : bE} {Q : (Int × bM) → Prop} {v1 : Int} {v2 : Int} {v3 : Int} {M : bM} (h : b_wp (F_X2_takeLinkWithGap_s17 v1 v2 v3 M) (Sum.elim (A_X2_takeLinkWithGap_17 l E Q v2) (X_X2_takeLinkWithGap_17 l E Q v2))) : V l E xX2_takeLinkWithGap (0, 0) 17 [(0, bR 7), (1, bI v1), (2, bI v2), (3, bI v3)] [] M (b_pI Q) := by
  unfold F_X2_takeLinkWithGap_s17 at h
  refine v_iload_n (f := 3) 3 rfl dX2_takeLinkWithGap_17 ?_
  refine v_aload_n (f := 0) 0 rfl dX2_takeLinkWithGap_18 ?_
  refine v_getI (kf := 6) (kz := 6) rfl kd_7 rfl ⟨by decide, by decide⟩ rfl wf_2_129 dX2_takeLinkWithGap_19 ?_
  refine v_icmp_ge (tgt := 102) dX2_takeLinkWithGap_22 (by decide) (fun c2 => ?_) (fun c2 => ?_)
  · replace h := b_wp_t c2 h
    refine v_sub (ls2 := [(0, bR _), (1, bI _), (2, bI _)]) [0, 1, 2] rfl ?_
    exact h
  · replace h := b_wp_f c2 h
    refine v_aload_n (f := 0) 0 rfl dX2_takeLinkWithGap_25 ?_
    refine v_iload_n (f := 2) 2 rfl dX2_takeLinkWithGap_26 ?_
    refine v_cVIp (nA := 1) (As := [bI _]) (ix := 174) (cf_X2_isRoot (b_wp_b h)) rfl kd_7 rfl rfl wc_X2_isRoot wm_2_174 wi_X2_isRoot ws_X2_isRoot wn_2 ⟨by decide, by decide, by decide⟩ rfl ⟨by decide, by decide⟩ ⟨by decide, by decide⟩ (Nat.le_of_ble_eq_true rfl) dX2_takeLinkWithGap_27 (fun x3 h => ?_)
    refine v_if_eq (tgt := 102) dX2_takeLinkWithGap_30 (by decide) (fun c4 => ?_) (fun c4 => ?_)
    · replace h := b_wp_t c4 h
      refine v_sub (ls2 := [(0, bR _), (1, bI _), (2, bI _)]) [0, 1, 2] rfl ?_
      exact h
    · replace h := b_wp_f c4 h
      refine v_aload_n (f := 0) 0 rfl dX2_takeLinkWithGap_33 ?_
      refine v_iload_n (f := 3) 3 rfl dX2_takeLinkWithGap_34 ?_
      refine v_cVIp (nA := 1) (As := [bI _]) (ix := 177) (cf_X2_isEnder (b_wp_b h)) rfl kd_7 rfl rfl wc_X2_isEnder wm_2_177 wi_X2_isEnder ws_X2_isEnder wn_2 ⟨by decide, by decide, by decide⟩ rfl ⟨by decide, by decide⟩ ⟨by decide, by decide⟩ (Nat.le_of_ble_eq_true rfl) dX2_takeLinkWithGap_35 (fun x5 h => ?_)
      refine v_if_eq (tgt := 96) dX2_takeLinkWithGap_38 (by decide) (fun c6 => ?_) (fun c6 => ?_)
      · replace h := b_wp_t c6 h
        obtain ⟨g7, h⟩ := b_wp_g h
        refine v_iincN (ls' := [(3, bI _), (0, bR _), (1, bI _), (2, bI _)]) 3 rfl (by decide) g7 dX2_takeLinkWithGap_96 rfl ?_
        refine v_goto (tgt := 17) dX2_takeLinkWithGap_99 (by decide) ?_
        refine v_sub (ls2 := [(0, bR _), (1, bI _), (2, bI _), (3, bI _)]) [1, 2, 3, 0] rfl ?_
        exact h
      · replace h := b_wp_f c6 h
        obtain ⟨⟨g8, g9⟩, h⟩ := b_wp_g h
        refine v_aload_n (f := 0) 0 rfl dX2_takeLinkWithGap_41 ?_
        refine v_getR (kf := 1) (kz := 1) rfl kd_7 rfl ⟨by decide, by decide⟩ rfl wf_2_56 dX2_takeLinkWithGap_42 ?_
        refine v_getR (kf := 9) (kz := 9) rfl kd_3 rfl ⟨by decide, by decide⟩ rfl wf_2_180 dX2_takeLinkWithGap_45 ?_
        refine v_iload_n (f := 2) 2 rfl dX2_takeLinkWithGap_48 ?_
        refine v_iaload kd_93 g8 (by decide) dX2_takeLinkWithGap_49 ?_
        refine v_aload_n (f := 0) 0 rfl dX2_takeLinkWithGap_50 ?_
        refine v_getR (kf := 9) (kz := 9) rfl kd_7 rfl ⟨by decide, by decide⟩ rfl wf_2_20 dX2_takeLinkWithGap_51 ?_
        refine v_iload_n (f := 3) 3 rfl dX2_takeLinkWithGap_54 ?_
        refine v_iaload kd_132 g9 (by decide) dX2_takeLinkWithGap_55 ?_
        refine v_icmp_gt (tgt := 96) dX2_takeLinkWithGap_56 (by decide) (fun c10 => ?_) (fun c10 => ?_)
        · replace h := b_wp_t c10 h
          obtain ⟨g11, h⟩ := b_wp_g h
          refine v_iincN (ls' := [(3, bI _), (0, bR _), (1, bI _), (2, bI _)]) 3 rfl (by decide) g11 dX2_takeLinkWithGap_96 rfl ?_
          refine v_goto (tgt := 17) dX2_takeLinkWithGap_99 (by decide) ?_
          refine v_sub (ls2 := [(0, bR _), (1, bI _), (2, bI _), (3, bI _)]) [1, 2, 3, 0] rfl ?_
          exact h
        · replace h := b_wp_f c10 h
          obtain ⟨g12, h⟩ := b_wp_g h
          refine v_aload_n (f := 0) 0 rfl dX2_takeLinkWithGap_59 ?_
          refine v_getR (kf := 10) (kz := 10) rfl kd_7 rfl ⟨by decide, by decide⟩ rfl wf_2_23 dX2_takeLinkWithGap_60 ?_
          refine v_iload_n (f := 3) 3 rfl dX2_takeLinkWithGap_63 ?_
          refine v_iaload kd_133 g12 (by decide) dX2_takeLinkWithGap_64 ?_
          refine v_iload_n (f := 1) 1 rfl dX2_takeLinkWithGap_65 ?_
          refine v_icmp_le (tgt := 96) dX2_takeLinkWithGap_66 (by decide) (fun c13 => ?_) (fun c13 => ?_)
          · replace h := b_wp_t c13 h
            obtain ⟨g14, h⟩ := b_wp_g h
            refine v_iincN (ls' := [(3, bI _), (0, bR _), (1, bI _), (2, bI _)]) 3 rfl (by decide) g14 dX2_takeLinkWithGap_96 rfl ?_
            refine v_goto (tgt := 17) dX2_takeLinkWithGap_99 (by decide) ?_
            refine v_sub (ls2 := [(0, bR _), (1, bI _), (2, bI _), (3, bI _)]) [1, 2, 3, 0] rfl ?_
            exact h
          · replace h := b_wp_f c13 h
            obtain ⟨g15, h⟩ := b_wp_g h
            refine v_aload_n (f := 0) 0 rfl dX2_takeLinkWithGap_69 ?_
            refine v_getR (kf := 10) (kz := 10) rfl kd_7 rfl ⟨by decide, by decide⟩ rfl wf_2_23 dX2_takeLinkWithGap_70 ?_
            refine v_iload_n (f := 3) 3 rfl dX2_takeLinkWithGap_73 ?_
            refine v_iaload kd_133 g15 (by decide) dX2_takeLinkWithGap_74 ?_
            replace h := b_wp_l h
            refine v_istore_n (g := 1) (i := 1) (ls' := [(1, bI _), (0, bR _), (2, bI _), (3, bI _)]) rfl (by decide) dX2_takeLinkWithGap_75 rfl ?_
            refine v_aload_n (f := 0) 1 rfl dX2_takeLinkWithGap_76 ?_
            refine v_iconst ⟨by decide, by decide⟩ dX2_takeLinkWithGap_77 ?_
            refine v_iload_n (f := 1) 0 rfl dX2_takeLinkWithGap_78 ?_
            refine v_iconst ⟨by decide, by decide⟩ dX2_takeLinkWithGap_79 ?_
            refine v_iload_n (f := 2) 2 rfl dX2_takeLinkWithGap_80 ?_
            refine v_cVV (nA := 4) (As := [bI _, bI _, bI _, bI _]) (ix := 92) (cf_X2_tell (b_wp_b h)) rfl kd_7 rfl rfl wc_X2_tell wm_2_92 wi_X2_tell ws_X2_tell wn_2 ⟨by decide, by decide, by decide⟩ rfl ⟨by decide, by decide⟩ ⟨by decide, by decide⟩ (Nat.le_of_ble_eq_true rfl) dX2_takeLinkWithGap_81 (fun M17 h => ?_)
            obtain ⟨g18, h⟩ := b_wp_g h
            refine v_aload_n (f := 0) 1 rfl dX2_takeLinkWithGap_84 ?_
            refine v_getR (kf := 18) (kz := 18) rfl kd_7 rfl ⟨by decide, by decide⟩ rfl wf_2_46 dX2_takeLinkWithGap_85 ?_
            refine v_iconst ⟨by decide, by decide⟩ dX2_takeLinkWithGap_88 ?_
            refine v_aload_n (f := 0) 1 rfl dX2_takeLinkWithGap_89 ?_
            refine v_getR (kf := 7) (kz := 7) rfl kd_7 rfl ⟨by decide, by decide⟩ rfl wf_2_13 dX2_takeLinkWithGap_90 ?_
            refine v_iload_n (f := 3) 3 rfl dX2_takeLinkWithGap_93 ?_
            refine v_iaload kd_130 g18 (by decide) dX2_takeLinkWithGap_94 ?_
            refine v_iastore kd_140 ⟨by decide, by decide⟩ (by decide) dX2_takeLinkWithGap_95 ?_
            replace h := b_wp_l h
            obtain ⟨g20, h⟩ := b_wp_g h
            refine v_iincN (ls' := [(3, bI _), (1, bI _), (0, bR _), (2, bI _)]) 3 rfl (by decide) g20 dX2_takeLinkWithGap_96 rfl ?_
            refine v_goto (tgt := 17) dX2_takeLinkWithGap_99 (by decide) ?_
            refine v_sub (ls2 := [(0, bR _), (1, bI _), (2, bI _), (3, bI _)]) [2, 1, 3, 0] rfl ?_
            exact h
theorem l_X2_takeLinkWithGap_17 {l : Launch} {E : bE} {Q : (Int × bM) → Prop} {v2 : Int} {s : Int × Int × bM} (h : b_wp (b_loop (fun t => F_X2_takeLinkWithGap_s17 t.1 v2 t.2.1 t.2.2) s) (X_X2_takeLinkWithGap_17 l E Q v2)) : A_X2_takeLinkWithGap_17 l E Q v2 s := b_loop_wp (fun t h => t_X2_takeLinkWithGap_s17 h) s h
noncomputable def F_X2_takeLinkWithGap_b102 (v1 : Int) (v2 : Int) (M : bM) : Option ((Int × Int × bM) ⊕ (Int × bM)) :=
  b_g (b_i32 (v2 + 1)) (some (.inl (v1, (v2 + 1), M)))
theorem t_X2_takeLinkWithGap_b102 {l : Launch} {E : bE} {Q : (Int × bM) → Prop} {v1 : Int} {v2 : Int} {M : bM} (h : b_wp (F_X2_takeLinkWithGap_b102 v1 v2 M) (Sum.elim (A_X2_takeLinkWithGap_4 l E Q ) (X_X2_takeLinkWithGap_4 l E Q ))) : V l E xX2_takeLinkWithGap (0, 0) 102 [(0, bR 7), (1, bI v1), (2, bI v2)] [] M (b_pI Q) := by
  unfold F_X2_takeLinkWithGap_b102 at h
  obtain ⟨g21, h⟩ := b_wp_g h
  refine v_iincN (ls' := [(2, bI _), (0, bR _), (1, bI _)]) 2 rfl (by decide) g21 dX2_takeLinkWithGap_102 rfl ?_
  refine v_goto (tgt := 4) dX2_takeLinkWithGap_105 (by decide) ?_
  refine v_sub (ls2 := [(0, bR _), (1, bI _), (2, bI _)]) [1, 2, 0] rfl ?_
  exact h
noncomputable def F_X2_takeLinkWithGap_s4 (v1 : Int) (v2 : Int) (M : bM) : Option ((Int × Int × bM) ⊕ (Int × bM)) :=
  if (M 3 0) ≤ v2 then (some (.inr (v1, M))) else (b_bind (b_loop (fun t => F_X2_takeLinkWithGap_s17 t.1 v2 t.2.1 t.2.2) (v1, 0, M)) (fun t => F_X2_takeLinkWithGap_b102 (t.1) v2 (t.2)))
theorem t_X2_takeLinkWithGap_s4 {l : Launch} {E : bE} {Q : (Int × bM) → Prop} {v1 : Int} {v2 : Int} {M : bM} (h : b_wp (F_X2_takeLinkWithGap_s4 v1 v2 M) (Sum.elim (A_X2_takeLinkWithGap_4 l E Q ) (X_X2_takeLinkWithGap_4 l E Q ))) : V l E xX2_takeLinkWithGap (0, 0) 4 [(0, bR 7), (1, bI v1), (2, bI v2)] [] M (b_pI Q) := by
  unfold F_X2_takeLinkWithGap_s4 at h
  refine v_iload_n (f := 2) 2 rfl dX2_takeLinkWithGap_4 ?_
  refine v_aload_n (f := 0) 0 rfl dX2_takeLinkWithGap_5 ?_
  refine v_getR (kf := 1) (kz := 1) rfl kd_7 rfl ⟨by decide, by decide⟩ rfl wf_2_56 dX2_takeLinkWithGap_6 ?_
  refine v_getI (kf := 0) (kz := 0) rfl kd_3 rfl ⟨by decide, by decide⟩ rfl wf_2_160 dX2_takeLinkWithGap_9 ?_
  refine v_icmp_ge (tgt := 108) dX2_takeLinkWithGap_12 (by decide) (fun c1 => ?_) (fun c1 => ?_)
  · replace h := b_wp_t c1 h
    refine v_sub (ls2 := [(1, bI _)]) [1] rfl ?_
    exact h
  · replace h := b_wp_f c1 h
    refine v_iconst ⟨by decide, by decide⟩ dX2_takeLinkWithGap_15 ?_
    refine v_istore_n (g := 3) (i := 3) (ls' := [(3, bI _), (0, bR _), (1, bI _), (2, bI _)]) rfl (by decide) dX2_takeLinkWithGap_16 rfl ?_
    refine v_sub (ls2 := [(0, bR _), (1, bI _), (2, bI _), (3, bI _)]) [1, 2, 3, 0] rfl ?_
    refine l_X2_takeLinkWithGap_17 (b_wp_m (fun t h => ?_) (b_wp_b h))
    show V l E xX2_takeLinkWithGap (0, 0) 102 [(0, bR 7), (1, bI _), (2, bI _)] [] _ (b_pI Q)
    exact t_X2_takeLinkWithGap_b102 h
theorem l_X2_takeLinkWithGap_4 {l : Launch} {E : bE} {Q : (Int × bM) → Prop} {s : Int × Int × bM} (h : b_wp (b_loop (fun t => F_X2_takeLinkWithGap_s4 t.1 t.2.1 t.2.2) s) (X_X2_takeLinkWithGap_4 l E Q )) : A_X2_takeLinkWithGap_4 l E Q  s := b_loop_wp (fun t h => t_X2_takeLinkWithGap_s4 h) s h
noncomputable def F_X2_takeLinkWithGap_b108 (v1 : Int) (M : bM) : Option (Int × bM) :=
  if v1 = (-1) then (some (0, M)) else (some (1, M))
theorem t_X2_takeLinkWithGap_b108 {l : Launch} {E : bE} {Q : (Int × bM) → Prop} {v1 : Int} {M : bM} (h : b_wp (F_X2_takeLinkWithGap_b108 v1 M) (Q)) : V l E xX2_takeLinkWithGap (0, 0) 108 [(1, bI v1)] [] M (b_pI Q) := by
  unfold F_X2_takeLinkWithGap_b108 at h
  refine v_iload_n (f := 1) 0 rfl dX2_takeLinkWithGap_108 ?_
  refine v_iconst ⟨by decide, by decide⟩ dX2_takeLinkWithGap_109 ?_
  refine v_icmp_eq (tgt := 117) dX2_takeLinkWithGap_110 (by decide) (fun c22 => ?_) (fun c22 => ?_)
  · replace h := b_wp_t c22 h
    refine v_iconst ⟨by decide, by decide⟩ dX2_takeLinkWithGap_117 ?_
    refine v_zreturn rfl (Or.inl rfl) dX2_takeLinkWithGap_118 ⟨by decide, by decide⟩ ?_
    exact ⟨_, rfl, h⟩
  · replace h := b_wp_f c22 h
    refine v_iconst ⟨by decide, by decide⟩ dX2_takeLinkWithGap_113 ?_
    refine v_goto (tgt := 118) dX2_takeLinkWithGap_114 (by decide) ?_
    refine v_zreturn rfl (Or.inr rfl) dX2_takeLinkWithGap_118 ⟨by decide, by decide⟩ ?_
    exact ⟨_, rfl, h⟩
noncomputable def F_X2_takeLinkWithGap (M : bM) : Option (Int × bM) :=
  b_bind (b_loop (fun t => F_X2_takeLinkWithGap_s4 t.1 t.2.1 t.2.2) ((-1), 0, M)) (fun t => F_X2_takeLinkWithGap_b108 (t.1) (t.2))
theorem t_X2_takeLinkWithGap {l : Launch} {E : bE} {Q : (Int × bM) → Prop} {M : bM} (h : b_wp (F_X2_takeLinkWithGap M) (Q)) : V l E xX2_takeLinkWithGap (0, 0) 0 [(0, bR 7)] [] M (b_pI Q) := by
  unfold F_X2_takeLinkWithGap at h
  refine v_iconst ⟨by decide, by decide⟩ dX2_takeLinkWithGap_0 ?_
  refine v_istore_n (g := 1) (i := 1) (ls' := [(1, bI _), (0, bR _)]) rfl (by decide) dX2_takeLinkWithGap_1 rfl ?_
  refine v_iconst ⟨by decide, by decide⟩ dX2_takeLinkWithGap_2 ?_
  refine v_istore_n (g := 2) (i := 2) (ls' := [(2, bI _), (1, bI _), (0, bR _)]) rfl (by decide) dX2_takeLinkWithGap_3 rfl ?_
  refine v_sub (ls2 := [(0, bR _), (1, bI _), (2, bI _)]) [2, 1, 0] rfl ?_
  refine l_X2_takeLinkWithGap_4 (b_wp_m (fun t h => ?_) (b_wp_b h))
  show V l E xX2_takeLinkWithGap (0, 0) 108 [(1, bI _)] [] _ (b_pI Q)
  exact t_X2_takeLinkWithGap_b108 h
theorem cf_X2_takeLinkWithGap {l : Launch} {E : bE} {M : bM} {Q : (Int × bM) → Prop} (h : b_wp (F_X2_takeLinkWithGap M) Q) : b_C l E xX2_takeLinkWithGap yX2_takeLinkWithGap [bR 7] M (b_pI Q) := b_met (by decide) ⟨rfl, rfl⟩ (Nat.le_of_ble_eq_true rfl) (fun _ _ => t_X2_takeLinkWithGap h)
