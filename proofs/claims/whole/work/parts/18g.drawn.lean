abbrev A_X3_hear_31 (l : Launch) (E : bE) (Q : (Int × bM) → Prop) (v1 : Int) (v2 : Int) (v3 : Int) : (Int × Int × Int × Int × Int × Int × bM) → Prop := (fun t : Int × Int × Int × Int × Int × Int × bM => V l E xX3_hear (0, 0) 31 [(0, bR 9), (1, bI v1), (2, bI v2), (3, bI v3), (4, bI (t.1)), (5, bI (t.2.1)), (6, bI (t.2.2.1)), (7, bI (t.2.2.2.1)), (8, bI (t.2.2.2.2.1)), (9, bI (t.2.2.2.2.2.1))] [] t.2.2.2.2.2.2 (b_pI Q))
abbrev X_X3_hear_31 (l : Launch) (E : bE) (Q : (Int × bM) → Prop) (v1 : Int) (v2 : Int) (v3 : Int) : (Int × Int × Int × bM) → Prop := (fun t : Int × Int × Int × bM => V l E xX3_hear (0, 0) 182 [(0, bR 9), (1, bI v1), (2, bI v2), (4, bI (t.1)), (5, bI (t.2.1)), (6, bI (t.2.2.1))] [] t.2.2.2 (b_pI Q))
noncomputable def F_X3_hear_b143 (v1 : Int) (v2 : Int) (v3 : Int) (v4 : Int) (v5 : Int) (v6 : Int) (v7 : Int) (v8 : Int) (v9 : Int) (v10 : Int) (u0 : Int) (M : bM) : Option ((Int × Int × Int × Int × Int × Int × bM) ⊕ (Int × Int × Int × bM)) :=
  if v10 = 3 then (b_g (b_i32 (v9 + 1)) (some (.inl (v4, v5, v6, v7, v8, (v9 + 1), M)))) else (if u0 = 0 then (b_g (b_i32 (v9 + 1)) (some (.inl (v4, v5, v6, v7, v8, (v9 + 1), M)))) else (b_g (b_i32 (v9 + 1)) (some (.inl (v4, v9, v10, (M 9 13), (M 9 14), (v9 + 1), M)))))
theorem t_X3_hear_b143 {l : Launch} {E : bE} {Q : (Int × bM) → Prop} {v1 : Int} {v2 : Int} {v3 : Int} {v4 : Int} {v5 : Int} {v6 : Int} {v7 : Int} {v8 : Int} {v9 : Int} {v10 : Int} {u0 : Int} {M : bM} (h : b_wp (F_X3_hear_b143 v1 v2 v3 v4 v5 v6 v7 v8 v9 v10 u0 M) (Sum.elim (A_X3_hear_31 l E Q v1 v2 v3) (X_X3_hear_31 l E Q v1 v2 v3))) : V l E xX3_hear (0, 0) 143 [(0, bR 9), (1, bI v1), (2, bI v2), (3, bI v3), (4, bI v4), (5, bI v5), (6, bI v6), (7, bI v7), (8, bI v8), (9, bI v9), (10, bI v10)] [bI u0] M (b_pI Q) := by
  unfold F_X3_hear_b143 at h
  refine v_istore (i := 11) (ls' := [(11, bI _), (0, bR _), (1, bI _), (2, bI _), (3, bI _), (4, bI _), (5, bI _), (6, bI _), (7, bI _), (8, bI _), (9, bI _), (10, bI _)]) (by decide) dX3_hear_143 rfl ?_
  refine v_iload (i := 10) 11 rfl dX3_hear_145 ?_
  refine v_iconst ⟨by decide, by decide⟩ dX3_hear_147 ?_
  refine v_icmp_eq (tgt := 176) dX3_hear_148 (by decide) (fun c20 => ?_) (fun c20 => ?_)
  · replace h := b_wp_t c20 h
    obtain ⟨g21, h⟩ := b_wp_g h
    refine v_iincN (ls' := [(9, bI _), (11, bI _), (0, bR _), (1, bI _), (2, bI _), (3, bI _), (4, bI _), (5, bI _), (6, bI _), (7, bI _), (8, bI _), (10, bI _)]) 10 rfl (by decide) g21 dX3_hear_176 rfl ?_
    refine v_goto (tgt := 31) dX3_hear_179 (by decide) ?_
    refine v_sub (ls2 := [(0, bR _), (1, bI _), (2, bI _), (3, bI _), (4, bI _), (5, bI _), (6, bI _), (7, bI _), (8, bI _), (9, bI _)]) [2, 3, 4, 5, 6, 7, 8, 9, 10, 0] rfl ?_
    exact h
  · replace h := b_wp_f c20 h
    refine v_iload (i := 11) 0 rfl dX3_hear_151 ?_
    refine v_if_eq (tgt := 176) dX3_hear_153 (by decide) (fun c22 => ?_) (fun c22 => ?_)
    · replace h := b_wp_t c22 h
      obtain ⟨g23, h⟩ := b_wp_g h
      refine v_iincN (ls' := [(9, bI _), (11, bI _), (0, bR _), (1, bI _), (2, bI _), (3, bI _), (4, bI _), (5, bI _), (6, bI _), (7, bI _), (8, bI _), (10, bI _)]) 10 rfl (by decide) g23 dX3_hear_176 rfl ?_
      refine v_goto (tgt := 31) dX3_hear_179 (by decide) ?_
      refine v_sub (ls2 := [(0, bR _), (1, bI _), (2, bI _), (3, bI _), (4, bI _), (5, bI _), (6, bI _), (7, bI _), (8, bI _), (9, bI _)]) [2, 3, 4, 5, 6, 7, 8, 9, 10, 0] rfl ?_
      exact h
    · replace h := b_wp_f c22 h
      obtain ⟨g24, h⟩ := b_wp_g h
      refine v_iload (i := 9) 10 rfl dX3_hear_156 ?_
      refine v_istore (i := 5) (ls' := [(5, bI _), (11, bI _), (0, bR _), (1, bI _), (2, bI _), (3, bI _), (4, bI _), (6, bI _), (7, bI _), (8, bI _), (9, bI _), (10, bI _)]) (by decide) dX3_hear_158 rfl ?_
      refine v_iload (i := 10) 11 rfl dX3_hear_160 ?_
      refine v_istore (i := 6) (ls' := [(6, bI _), (5, bI _), (11, bI _), (0, bR _), (1, bI _), (2, bI _), (3, bI _), (4, bI _), (7, bI _), (8, bI _), (9, bI _), (10, bI _)]) (by decide) dX3_hear_162 rfl ?_
      refine v_aload_n (f := 0) 3 rfl dX3_hear_164 ?_
      refine v_getI (kf := 13) (kz := 13) rfl kd_9 rfl ⟨by decide, by decide⟩ rfl wf_3_88 dX3_hear_165 ?_
      refine v_istore (i := 7) (ls' := [(7, bI _), (6, bI _), (5, bI _), (11, bI _), (0, bR _), (1, bI _), (2, bI _), (3, bI _), (4, bI _), (8, bI _), (9, bI _), (10, bI _)]) (by decide) dX3_hear_168 rfl ?_
      refine v_aload_n (f := 0) 4 rfl dX3_hear_170 ?_
      refine v_getI (kf := 14) (kz := 14) rfl kd_9 rfl ⟨by decide, by decide⟩ rfl wf_3_91 dX3_hear_171 ?_
      refine v_istore (i := 8) (ls' := [(8, bI _), (7, bI _), (6, bI _), (5, bI _), (11, bI _), (0, bR _), (1, bI _), (2, bI _), (3, bI _), (4, bI _), (9, bI _), (10, bI _)]) (by decide) dX3_hear_174 rfl ?_
      refine v_iincN (ls' := [(9, bI _), (8, bI _), (7, bI _), (6, bI _), (5, bI _), (11, bI _), (0, bR _), (1, bI _), (2, bI _), (3, bI _), (4, bI _), (10, bI _)]) 10 rfl (by decide) g24 dX3_hear_176 rfl ?_
      refine v_goto (tgt := 31) dX3_hear_179 (by decide) ?_
      refine v_sub (ls2 := [(0, bR _), (1, bI _), (2, bI _), (3, bI _), (4, bI _), (5, bI _), (6, bI _), (7, bI _), (8, bI _), (9, bI _)]) [6, 7, 8, 9, 10, 4, 3, 2, 1, 0] rfl ?_
      exact h
noncomputable def F_X3_hear_b138 (v1 : Int) (v2 : Int) (v3 : Int) (v4 : Int) (v5 : Int) (v6 : Int) (v7 : Int) (v8 : Int) (v9 : Int) (v10 : Int) (M : bM) : Option ((Int × Int × Int × Int × Int × Int × bM) ⊕ (Int × Int × Int × bM)) :=
  F_X3_hear_b143 v1 v2 v3 v4 v5 v6 v7 v8 v9 v10 1 M
theorem t_X3_hear_b138 {l : Launch} {E : bE} {Q : (Int × bM) → Prop} {v1 : Int} {v2 : Int} {v3 : Int} {v4 : Int} {v5 : Int} {v6 : Int} {v7 : Int} {v8 : Int} {v9 : Int} {v10 : Int} {M : bM} (h : b_wp (F_X3_hear_b138 v1 v2 v3 v4 v5 v6 v7 v8 v9 v10 M) (Sum.elim (A_X3_hear_31 l E Q v1 v2 v3) (X_X3_hear_31 l E Q v1 v2 v3))) : V l E xX3_hear (0, 0) 138 [(0, bR 9), (1, bI v1), (2, bI v2), (3, bI v3), (4, bI v4), (5, bI v5), (6, bI v6), (7, bI v7), (8, bI v8), (9, bI v9), (10, bI v10)] [] M (b_pI Q) := by
  unfold F_X3_hear_b138 at h
  refine v_iconst ⟨by decide, by decide⟩ dX3_hear_138 ?_
  refine v_goto (tgt := 143) dX3_hear_139 (by decide) ?_
  exact t_X3_hear_b143 h
noncomputable def F_X3_hear_b142 (v1 : Int) (v2 : Int) (v3 : Int) (v4 : Int) (v5 : Int) (v6 : Int) (v7 : Int) (v8 : Int) (v9 : Int) (v10 : Int) (M : bM) : Option ((Int × Int × Int × Int × Int × Int × bM) ⊕ (Int × Int × Int × bM)) :=
  F_X3_hear_b143 v1 v2 v3 v4 v5 v6 v7 v8 v9 v10 0 M
theorem t_X3_hear_b142 {l : Launch} {E : bE} {Q : (Int × bM) → Prop} {v1 : Int} {v2 : Int} {v3 : Int} {v4 : Int} {v5 : Int} {v6 : Int} {v7 : Int} {v8 : Int} {v9 : Int} {v10 : Int} {M : bM} (h : b_wp (F_X3_hear_b142 v1 v2 v3 v4 v5 v6 v7 v8 v9 v10 M) (Sum.elim (A_X3_hear_31 l E Q v1 v2 v3) (X_X3_hear_31 l E Q v1 v2 v3))) : V l E xX3_hear (0, 0) 142 [(0, bR 9), (1, bI v1), (2, bI v2), (3, bI v3), (4, bI v4), (5, bI v5), (6, bI v6), (7, bI v7), (8, bI v8), (9, bI v9), (10, bI v10)] [] M (b_pI Q) := by
  unfold F_X3_hear_b142 at h
  refine v_iconst ⟨by decide, by decide⟩ dX3_hear_142 ?_
  exact t_X3_hear_b143 h
noncomputable def F_X3_hear_s31 (v1 : Int) (v2 : Int) (v3 : Int) (v4 : Int) (v5 : Int) (v6 : Int) (v7 : Int) (v8 : Int) (v9 : Int) (M : bM) : Option ((Int × Int × Int × Int × Int × Int × bM) ⊕ (Int × Int × Int × bM)) :=
  if (M 9 0) ≤ v9 then (some (.inr (v4, v5, v6, M))) else (b_g (0 ≤ v9 ∧ v9 < 30) (if (M 148 v9) = v1 then (b_g (0 ≤ v9 ∧ v9 < 30) (if (M 150 v9) = 0 then (b_g ((0 ≤ v9 ∧ v9 < 30) ∧ (b_i32 (v2 - (M 149 v9)))) (if v3 ≤ (v2 - (M 149 v9)) then (b_g ((b_i32 (v4 + 1)) ∧ (0 ≤ v9 ∧ v9 < 30)) (b_let (b_up M 150 v9 3) (fun M16 => b_bind (F_X3_appraise v9 v2 M16) (fun t => b_two t (fun x17 M18 => if x17 < v6 then (F_X3_hear_b138 v1 v2 v3 (v4 + 1) v5 v6 v7 v8 v9 x17 M18) else (if x17 = v6 then (if (M18 9 13) < v7 then (F_X3_hear_b138 v1 v2 v3 (v4 + 1) v5 v6 v7 v8 v9 x17 M18) else (if (M18 9 13) = v7 then (if (M18 9 14) ≤ v8 then (F_X3_hear_b142 v1 v2 v3 (v4 + 1) v5 v6 v7 v8 v9 x17 M18) else (F_X3_hear_b138 v1 v2 v3 (v4 + 1) v5 v6 v7 v8 v9 x17 M18)) else (F_X3_hear_b142 v1 v2 v3 (v4 + 1) v5 v6 v7 v8 v9 x17 M18))) else (F_X3_hear_b142 v1 v2 v3 (v4 + 1) v5 v6 v7 v8 v9 x17 M18))))))) else (b_g (b_i32 (v9 + 1)) (some (.inl (v4, v5, v6, v7, v8, (v9 + 1), M)))))) else (b_g (b_i32 (v9 + 1)) (some (.inl (v4, v5, v6, v7, v8, (v9 + 1), M)))))) else (b_g (b_i32 (v9 + 1)) (some (.inl (v4, v5, v6, v7, v8, (v9 + 1), M))))))
theorem t_X3_hear_s31 {l : Launch} {E : bE} {Q : (Int × bM) → Prop} {v1 : Int} {v2 : Int} {v3 : Int} {v4 : Int} {v5 : Int} {v6 : Int} {v7 : Int} {v8 : Int} {v9 : Int} {M : bM} (h : b_wp (F_X3_hear_s31 v1 v2 v3 v4 v5 v6 v7 v8 v9 M) (Sum.elim (A_X3_hear_31 l E Q v1 v2 v3) (X_X3_hear_31 l E Q v1 v2 v3))) : V l E xX3_hear (0, 0) 31 [(0, bR 9), (1, bI v1), (2, bI v2), (3, bI v3), (4, bI v4), (5, bI v5), (6, bI v6), (7, bI v7), (8, bI v8), (9, bI v9)] [] M (b_pI Q) := by
  unfold F_X3_hear_s31 at h
  refine v_iload (i := 9) 9 rfl dX3_hear_31 ?_
  refine v_aload_n (f := 0) 0 rfl dX3_hear_33 ?_
  refine v_getI (kf := 0) (kz := 0) rfl kd_9 rfl ⟨by decide, by decide⟩ rfl wf_3_50 dX3_hear_34 ?_
  refine v_icmp_ge (tgt := 182) dX3_hear_37 (by decide) (fun c4 => ?_) (fun c4 => ?_)
  · replace h := b_wp_t c4 h
    refine v_sub (ls2 := [(0, bR _), (1, bI _), (2, bI _), (4, bI _), (5, bI _), (6, bI _)]) [0, 1, 2, 4, 5, 6] rfl ?_
    exact h
  · replace h := b_wp_f c4 h
    obtain ⟨g5, h⟩ := b_wp_g h
    refine v_aload_n (f := 0) 0 rfl dX3_hear_40 ?_
    refine v_getR (kf := 6) (kz := 6) rfl kd_9 rfl ⟨by decide, by decide⟩ rfl wf_3_15 dX3_hear_41 ?_
    refine v_iload (i := 9) 9 rfl dX3_hear_44 ?_
    refine v_iaload kd_148 g5 (by decide) dX3_hear_46 ?_
    refine v_iload_n (f := 1) 1 rfl dX3_hear_47 ?_
    refine v_icmp_ne (tgt := 176) dX3_hear_48 (by decide) (fun c6 => ?_) (fun c6 => ?_)
    · replace h := b_wp_f c6 h
      obtain ⟨g7, h⟩ := b_wp_g h
      refine v_iincN (ls' := [(9, bI _), (0, bR _), (1, bI _), (2, bI _), (3, bI _), (4, bI _), (5, bI _), (6, bI _), (7, bI _), (8, bI _)]) 9 rfl (by decide) g7 dX3_hear_176 rfl ?_
      refine v_goto (tgt := 31) dX3_hear_179 (by decide) ?_
      refine v_sub (ls2 := [(0, bR _), (1, bI _), (2, bI _), (3, bI _), (4, bI _), (5, bI _), (6, bI _), (7, bI _), (8, bI _), (9, bI _)]) [1, 2, 3, 4, 5, 6, 7, 8, 9, 0] rfl ?_
      exact h
    · replace h := b_wp_t c6 h
      obtain ⟨g8, h⟩ := b_wp_g h
      refine v_aload_n (f := 0) 0 rfl dX3_hear_51 ?_
      refine v_getR (kf := 8) (kz := 8) rfl kd_9 rfl ⟨by decide, by decide⟩ rfl wf_3_21 dX3_hear_52 ?_
      refine v_iload (i := 9) 9 rfl dX3_hear_55 ?_
      refine v_iaload kd_150 g8 (by decide) dX3_hear_57 ?_
      refine v_if_ne (tgt := 176) dX3_hear_58 (by decide) (fun c9 => ?_) (fun c9 => ?_)
      · replace h := b_wp_f c9 h
        obtain ⟨g10, h⟩ := b_wp_g h
        refine v_iincN (ls' := [(9, bI _), (0, bR _), (1, bI _), (2, bI _), (3, bI _), (4, bI _), (5, bI _), (6, bI _), (7, bI _), (8, bI _)]) 9 rfl (by decide) g10 dX3_hear_176 rfl ?_
        refine v_goto (tgt := 31) dX3_hear_179 (by decide) ?_
        refine v_sub (ls2 := [(0, bR _), (1, bI _), (2, bI _), (3, bI _), (4, bI _), (5, bI _), (6, bI _), (7, bI _), (8, bI _), (9, bI _)]) [1, 2, 3, 4, 5, 6, 7, 8, 9, 0] rfl ?_
        exact h
      · replace h := b_wp_t c9 h
        obtain ⟨⟨g11, g12⟩, h⟩ := b_wp_g h
        refine v_iload_n (f := 2) 2 rfl dX3_hear_61 ?_
        refine v_aload_n (f := 0) 0 rfl dX3_hear_62 ?_
        refine v_getR (kf := 7) (kz := 7) rfl kd_9 rfl ⟨by decide, by decide⟩ rfl wf_3_18 dX3_hear_63 ?_
        refine v_iload (i := 9) 9 rfl dX3_hear_66 ?_
        refine v_iaload kd_149 g11 (by decide) dX3_hear_68 ?_
        refine v_isubN g12 dX3_hear_69 ?_
        refine v_iload_n (f := 3) 3 rfl dX3_hear_70 ?_
        refine v_icmp_ge (tgt := 77) dX3_hear_71 (by decide) (fun c13 => ?_) (fun c13 => ?_)
        · replace h := b_wp_t c13 h
          obtain ⟨⟨g14, g15⟩, h⟩ := b_wp_g h
          refine v_iincN (ls' := [(4, bI _), (0, bR _), (1, bI _), (2, bI _), (3, bI _), (5, bI _), (6, bI _), (7, bI _), (8, bI _), (9, bI _)]) 4 rfl (by decide) g14 dX3_hear_77 rfl ?_
          refine v_aload_n (f := 0) 1 rfl dX3_hear_80 ?_
          refine v_getR (kf := 8) (kz := 8) rfl kd_9 rfl ⟨by decide, by decide⟩ rfl wf_3_21 dX3_hear_81 ?_
          refine v_iload (i := 9) 9 rfl dX3_hear_84 ?_
          refine v_iconst ⟨by decide, by decide⟩ dX3_hear_86 ?_
          refine v_iastore kd_150 g15 (by decide) dX3_hear_87 ?_
          replace h := b_wp_l h
          refine v_aload_n (f := 0) 1 rfl dX3_hear_88 ?_
          refine v_iload (i := 9) 9 rfl dX3_hear_89 ?_
          refine v_iload_n (f := 2) 3 rfl dX3_hear_91 ?_
          refine v_cVI (nA := 2) (As := [bI _, bI _]) (ix := 105) (cf_X3_appraise (b_wp_b h)) rfl kd_9 rfl rfl wc_X3_appraise wm_3_105 wi_X3_appraise ws_X3_appraise wn_3 ⟨by decide, by decide, by decide⟩ rfl ⟨by decide, by decide⟩ ⟨by decide, by decide⟩ (Nat.le_of_ble_eq_true rfl) dX3_hear_92 (fun x17 M18 h => ?_)
          replace h := b_wp_two h
          refine v_istore (i := 10) (ls' := [(10, bI _), (4, bI _), (0, bR _), (1, bI _), (2, bI _), (3, bI _), (5, bI _), (6, bI _), (7, bI _), (8, bI _), (9, bI _)]) (by decide) dX3_hear_95 rfl ?_
          refine v_iload (i := 10) 0 rfl dX3_hear_97 ?_
          refine v_iload (i := 6) 7 rfl dX3_hear_99 ?_
          refine v_icmp_lt (tgt := 138) dX3_hear_101 (by decide) (fun c19 => ?_) (fun c19 => ?_)
          · replace h := b_wp_t c19 h
            refine v_sub (ls2 := [(0, bR _), (1, bI _), (2, bI _), (3, bI _), (4, bI _), (5, bI _), (6, bI _), (7, bI _), (8, bI _), (9, bI _), (10, bI _)]) [2, 3, 4, 5, 1, 6, 7, 8, 9, 10, 0] rfl ?_
            exact t_X3_hear_b138 h
          · replace h := b_wp_f c19 h
            refine v_iload (i := 10) 0 rfl dX3_hear_104 ?_
            refine v_iload (i := 6) 7 rfl dX3_hear_106 ?_
            refine v_icmp_ne (tgt := 142) dX3_hear_108 (by decide) (fun c25 => ?_) (fun c25 => ?_)
            · replace h := b_wp_f c25 h
              refine v_sub (ls2 := [(0, bR _), (1, bI _), (2, bI _), (3, bI _), (4, bI _), (5, bI _), (6, bI _), (7, bI _), (8, bI _), (9, bI _), (10, bI _)]) [2, 3, 4, 5, 1, 6, 7, 8, 9, 10, 0] rfl ?_
              exact t_X3_hear_b142 h
            · replace h := b_wp_t c25 h
              refine v_aload_n (f := 0) 2 rfl dX3_hear_111 ?_
              refine v_getI (kf := 13) (kz := 13) rfl kd_9 rfl ⟨by decide, by decide⟩ rfl wf_3_88 dX3_hear_112 ?_
              refine v_iload (i := 7) 8 rfl dX3_hear_115 ?_
              refine v_icmp_lt (tgt := 138) dX3_hear_117 (by decide) (fun c26 => ?_) (fun c26 => ?_)
              · replace h := b_wp_t c26 h
                refine v_sub (ls2 := [(0, bR _), (1, bI _), (2, bI _), (3, bI _), (4, bI _), (5, bI _), (6, bI _), (7, bI _), (8, bI _), (9, bI _), (10, bI _)]) [2, 3, 4, 5, 1, 6, 7, 8, 9, 10, 0] rfl ?_
                exact t_X3_hear_b138 h
              · replace h := b_wp_f c26 h
                refine v_aload_n (f := 0) 2 rfl dX3_hear_120 ?_
                refine v_getI (kf := 13) (kz := 13) rfl kd_9 rfl ⟨by decide, by decide⟩ rfl wf_3_88 dX3_hear_121 ?_
                refine v_iload (i := 7) 8 rfl dX3_hear_124 ?_
                refine v_icmp_ne (tgt := 142) dX3_hear_126 (by decide) (fun c27 => ?_) (fun c27 => ?_)
                · replace h := b_wp_f c27 h
                  refine v_sub (ls2 := [(0, bR _), (1, bI _), (2, bI _), (3, bI _), (4, bI _), (5, bI _), (6, bI _), (7, bI _), (8, bI _), (9, bI _), (10, bI _)]) [2, 3, 4, 5, 1, 6, 7, 8, 9, 10, 0] rfl ?_
                  exact t_X3_hear_b142 h
                · replace h := b_wp_t c27 h
                  refine v_aload_n (f := 0) 2 rfl dX3_hear_129 ?_
                  refine v_getI (kf := 14) (kz := 14) rfl kd_9 rfl ⟨by decide, by decide⟩ rfl wf_3_91 dX3_hear_130 ?_
                  refine v_iload (i := 8) 9 rfl dX3_hear_133 ?_
                  refine v_icmp_le (tgt := 142) dX3_hear_135 (by decide) (fun c28 => ?_) (fun c28 => ?_)
                  · replace h := b_wp_t c28 h
                    refine v_sub (ls2 := [(0, bR _), (1, bI _), (2, bI _), (3, bI _), (4, bI _), (5, bI _), (6, bI _), (7, bI _), (8, bI _), (9, bI _), (10, bI _)]) [2, 3, 4, 5, 1, 6, 7, 8, 9, 10, 0] rfl ?_
                    exact t_X3_hear_b142 h
                  · replace h := b_wp_f c28 h
                    refine v_sub (ls2 := [(0, bR _), (1, bI _), (2, bI _), (3, bI _), (4, bI _), (5, bI _), (6, bI _), (7, bI _), (8, bI _), (9, bI _), (10, bI _)]) [2, 3, 4, 5, 1, 6, 7, 8, 9, 10, 0] rfl ?_
                    exact t_X3_hear_b138 h
        · replace h := b_wp_f c13 h
          obtain ⟨g29, h⟩ := b_wp_g h
          refine v_goto (tgt := 176) dX3_hear_74 (by decide) ?_
          refine v_iincN (ls' := [(9, bI _), (0, bR _), (1, bI _), (2, bI _), (3, bI _), (4, bI _), (5, bI _), (6, bI _), (7, bI _), (8, bI _)]) 9 rfl (by decide) g29 dX3_hear_176 rfl ?_
          refine v_goto (tgt := 31) dX3_hear_179 (by decide) ?_
          refine v_sub (ls2 := [(0, bR _), (1, bI _), (2, bI _), (3, bI _), (4, bI _), (5, bI _), (6, bI _), (7, bI _), (8, bI _), (9, bI _)]) [1, 2, 3, 4, 5, 6, 7, 8, 9, 0] rfl ?_
          exact h
theorem l_X3_hear_31 {l : Launch} {E : bE} {Q : (Int × bM) → Prop} {v1 : Int} {v2 : Int} {v3 : Int} {s : Int × Int × Int × Int × Int × Int × bM} (h : b_wp (b_loop (fun t => F_X3_hear_s31 v1 v2 v3 t.1 t.2.1 t.2.2.1 t.2.2.2.1 t.2.2.2.2.1 t.2.2.2.2.2.1 t.2.2.2.2.2.2) s) (X_X3_hear_31 l E Q v1 v2 v3)) : A_X3_hear_31 l E Q v1 v2 v3 s := b_loop_wp (fun t h => t_X3_hear_s31 h) s h
noncomputable def F_X3_hear_b182 (v1 : Int) (v2 : Int) (v4 : Int) (v5 : Int) (v6 : Int) (M : bM) : Option (Int × bM) :=
  if v5 = (-1) then (some (v4, M)) else (b_bind (F_X3_award v1 v5 v6 v2 M) (fun M31 => some (v4, M31)))
theorem t_X3_hear_b182 {l : Launch} {E : bE} {Q : (Int × bM) → Prop} {v1 : Int} {v2 : Int} {v4 : Int} {v5 : Int} {v6 : Int} {M : bM} (h : b_wp (F_X3_hear_b182 v1 v2 v4 v5 v6 M) (Q)) : V l E xX3_hear (0, 0) 182 [(0, bR 9), (1, bI v1), (2, bI v2), (4, bI v4), (5, bI v5), (6, bI v6)] [] M (b_pI Q) := by
  unfold F_X3_hear_b182 at h
  refine v_iload (i := 5) 4 rfl dX3_hear_182 ?_
  refine v_iconst ⟨by decide, by decide⟩ dX3_hear_184 ?_
  refine v_icmp_eq (tgt := 198) dX3_hear_185 (by decide) (fun c30 => ?_) (fun c30 => ?_)
  · replace h := b_wp_t c30 h
    refine v_iload (i := 4) 3 rfl dX3_hear_198 ?_
    refine v_ireturn rfl dX3_hear_200 ⟨by decide, by decide⟩ ?_
    exact ⟨_, rfl, h⟩
  · replace h := b_wp_f c30 h
    refine v_aload_n (f := 0) 0 rfl dX3_hear_188 ?_
    refine v_iload_n (f := 1) 1 rfl dX3_hear_189 ?_
    refine v_iload (i := 5) 4 rfl dX3_hear_190 ?_
    refine v_iload (i := 6) 5 rfl dX3_hear_192 ?_
    refine v_iload_n (f := 2) 2 rfl dX3_hear_194 ?_
    refine v_cVV (nA := 4) (As := [bI _, bI _, bI _, bI _]) (ix := 108) (cf_X3_award (b_wp_b h)) rfl kd_9 rfl rfl wc_X3_award wm_3_108 wi_X3_award ws_X3_award wn_3 ⟨by decide, by decide, by decide⟩ rfl ⟨by decide, by decide⟩ ⟨by decide, by decide⟩ (Nat.le_of_ble_eq_true rfl) dX3_hear_195 (fun M31 h => ?_)
    refine v_iload (i := 4) 3 rfl dX3_hear_198 ?_
    refine v_ireturn rfl dX3_hear_200 ⟨by decide, by decide⟩ ?_
    exact ⟨_, rfl, h⟩
noncomputable def F_X3_hear (v1 : Int) (v2 : Int) (M : bM) : Option (Int × bM) :=
  b_bind (F_X1_inForce v2 M) (fun x1 => b_g (12 ≤ x1 ∧ x1 < 22) (b_bind (F_X0_told_a x1 4 M) (fun x3 => b_bind (b_loop (fun t => F_X3_hear_s31 v1 v2 x3 t.1 t.2.1 t.2.2.1 t.2.2.2.1 t.2.2.2.2.1 t.2.2.2.2.2.1 t.2.2.2.2.2.2) (0, (-1), 3, 0, 0, 0, M)) (fun t => F_X3_hear_b182 v1 v2 (t.1) (t.2.1) (t.2.2.1) (t.2.2.2)))))
theorem t_X3_hear {l : Launch} {E : bE} {Q : (Int × bM) → Prop} {v1 : Int} {v2 : Int} {M : bM} (h : b_wp (F_X3_hear v1 v2 M) (Q)) : V l E xX3_hear (0, 0) 0 [(0, bR 9), (1, bI v1), (2, bI v2)] [] M (b_pI Q) := by
  unfold F_X3_hear at h
  refine v_aload_n (f := 0) 0 rfl dX3_hear_0 ?_
  refine v_getR (kf := 2) (kz := 2) rfl kd_9 rfl ⟨by decide, by decide⟩ rfl wf_3_38 dX3_hear_1 ?_
  refine v_iload_n (f := 2) 2 rfl dX3_hear_4 ?_
  refine v_cVAp (nA := 1) (As := [bI _]) (ix := 74) (cf_X1_inForce (b_wp_b h)) rfl kd_4 rfl rfl wc_X1_inForce wm_3_74 wi_X1_inForce ws_X1_inForce wn_1 ⟨by decide, by decide, by decide⟩ rfl ⟨by decide, by decide⟩ ⟨by decide, by decide⟩ (Nat.le_of_ble_eq_true rfl) dX3_hear_5 (fun x1 h => ?_)
  obtain ⟨g2, h⟩ := b_wp_g h
  refine v_iconst ⟨by decide, by decide⟩ dX3_hear_8 ?_
  refine v_cVIp (nA := 1) (As := [bI _]) (ix := 96) (cf_X0_told_a (b_wp_b h)) rfl (kd_act0 g2) rfl rfl wc_X0_told wm_3_96 wi_X0_told ws_X0_told wn_0 ⟨by decide, by decide, by decide⟩ rfl ⟨by decide, by decide⟩ ⟨by decide, by decide⟩ (Nat.le_of_ble_eq_true rfl) dX3_hear_9 (fun x3 h => ?_)
  refine v_istore_n (g := 3) (i := 3) (ls' := [(3, bI _), (0, bR _), (1, bI _), (2, bI _)]) rfl (by decide) dX3_hear_12 rfl ?_
  refine v_iconst ⟨by decide, by decide⟩ dX3_hear_13 ?_
  refine v_istore (i := 4) (ls' := [(4, bI _), (3, bI _), (0, bR _), (1, bI _), (2, bI _)]) (by decide) dX3_hear_14 rfl ?_
  refine v_iconst ⟨by decide, by decide⟩ dX3_hear_16 ?_
  refine v_istore (i := 5) (ls' := [(5, bI _), (4, bI _), (3, bI _), (0, bR _), (1, bI _), (2, bI _)]) (by decide) dX3_hear_17 rfl ?_
  refine v_iconst ⟨by decide, by decide⟩ dX3_hear_19 ?_
  refine v_istore (i := 6) (ls' := [(6, bI _), (5, bI _), (4, bI _), (3, bI _), (0, bR _), (1, bI _), (2, bI _)]) (by decide) dX3_hear_20 rfl ?_
  refine v_iconst ⟨by decide, by decide⟩ dX3_hear_22 ?_
  refine v_istore (i := 7) (ls' := [(7, bI _), (6, bI _), (5, bI _), (4, bI _), (3, bI _), (0, bR _), (1, bI _), (2, bI _)]) (by decide) dX3_hear_23 rfl ?_
  refine v_iconst ⟨by decide, by decide⟩ dX3_hear_25 ?_
  refine v_istore (i := 8) (ls' := [(8, bI _), (7, bI _), (6, bI _), (5, bI _), (4, bI _), (3, bI _), (0, bR _), (1, bI _), (2, bI _)]) (by decide) dX3_hear_26 rfl ?_
  refine v_iconst ⟨by decide, by decide⟩ dX3_hear_28 ?_
  refine v_istore (i := 9) (ls' := [(9, bI _), (8, bI _), (7, bI _), (6, bI _), (5, bI _), (4, bI _), (3, bI _), (0, bR _), (1, bI _), (2, bI _)]) (by decide) dX3_hear_29 rfl ?_
  refine v_sub (ls2 := [(0, bR _), (1, bI _), (2, bI _), (3, bI _), (4, bI _), (5, bI _), (6, bI _), (7, bI _), (8, bI _), (9, bI _)]) [7, 8, 9, 6, 5, 4, 3, 2, 1, 0] rfl ?_
  refine l_X3_hear_31 (b_wp_m (fun t h => ?_) (b_wp_b h))
  show V l E xX3_hear (0, 0) 182 [(0, bR 9), (1, bI _), (2, bI _), (4, bI _), (5, bI _), (6, bI _)] [] _ (b_pI Q)
  exact t_X3_hear_b182 h
theorem cf_X3_hear {l : Launch} {E : bE} {M : bM} {v1 : Int} {v2 : Int} {Q : (Int × bM) → Prop} (h : b_wp (F_X3_hear v1 v2 M) Q) : b_C l E xX3_hear yX3_hear [bR 9, bI v1, bI v2] M (b_pI Q) := b_met (by decide) ⟨rfl, rfl⟩ (Nat.le_of_ble_eq_true rfl) (fun _ _ => t_X3_hear h)
abbrev xX11_sit : bX := ("BurntHall", prog_1_method_45_code, 2, (Option.some Jvm.ClassFile.FieldType.int), b_rm 8 0 0, 0, "sit")
abbrev yX11_sit : MethodName := ⟨"BurntHall", "sit", "(I)I"⟩
theorem dX11_sit_0 : decode prog_1_method_45_code 0 = .ok (.aload_n 0, 1) := by decide +kernel
theorem dX11_sit_1 : decode prog_1_method_45_code 1 = .ok (.getfield 26, 3) := by decide +kernel
theorem dX11_sit_4 : decode prog_1_method_45_code 4 = .ok (.iload_n 1, 1) := by decide +kernel
theorem dX11_sit_5 : decode prog_1_method_45_code 5 = .ok (.invokevirtual 146, 3) := by decide +kernel
theorem dX11_sit_8 : decode prog_1_method_45_code 8 = .ok (.ifCond .ne 6, 3) := by decide +kernel
theorem dX11_sit_11 : decode prog_1_method_45_code 11 = .ok (.bipush (-2), 2) := by decide +kernel
theorem dX11_sit_13 : decode prog_1_method_45_code 13 = .ok (.ireturn, 1) := by decide +kernel
theorem dX11_sit_14 : decode prog_1_method_45_code 14 = .ok (.aload_n 0, 1) := by decide +kernel
theorem dX11_sit_15 : decode prog_1_method_45_code 15 = .ok (.getfield 78, 3) := by decide +kernel
theorem dX11_sit_18 : decode prog_1_method_45_code 18 = .ok (.iload_n 1, 1) := by decide +kernel
theorem dX11_sit_19 : decode prog_1_method_45_code 19 = .ok (.invokevirtual 327, 3) := by decide +kernel
theorem dX11_sit_22 : decode prog_1_method_45_code 22 = .ok (.ifCond .eq 6, 3) := by decide +kernel
theorem dX11_sit_25 : decode prog_1_method_45_code 25 = .ok (.bipush (-4), 2) := by decide +kernel
theorem dX11_sit_27 : decode prog_1_method_45_code 27 = .ok (.ireturn, 1) := by decide +kernel
theorem dX11_sit_28 : decode prog_1_method_45_code 28 = .ok (.aload_n 0, 1) := by decide +kernel
theorem dX11_sit_29 : decode prog_1_method_45_code 29 = .ok (.getfield 51, 3) := by decide +kernel
theorem dX11_sit_32 : decode prog_1_method_45_code 32 = .ok (.aload_n 0, 1) := by decide +kernel
theorem dX11_sit_33 : decode prog_1_method_45_code 33 = .ok (.getfield 91, 3) := by decide +kernel
theorem dX11_sit_36 : decode prog_1_method_45_code 36 = .ok (.invokevirtual 284, 3) := by decide +kernel
theorem dX11_sit_39 : decode prog_1_method_45_code 39 = .ok (.aload_n 0, 1) := by decide +kernel
theorem dX11_sit_40 : decode prog_1_method_45_code 40 = .ok (.getfield 78, 3) := by decide +kernel
theorem dX11_sit_43 : decode prog_1_method_45_code 43 = .ok (.iload_n 1, 1) := by decide +kernel
theorem dX11_sit_44 : decode prog_1_method_45_code 44 = .ok (.aload_n 0, 1) := by decide +kernel
theorem dX11_sit_45 : decode prog_1_method_45_code 45 = .ok (.getfield 91, 3) := by decide +kernel
theorem dX11_sit_48 : decode prog_1_method_45_code 48 = .ok (.invokevirtual 330, 3) := by decide +kernel
theorem dX11_sit_51 : decode prog_1_method_45_code 51 = .ok (.ireturn, 1) := by decide +kernel
noncomputable def F_X11_sit (v1 : Int) (M : bM) : Option (Int × bM) :=
  b_bind (F_X5_has v1 M) (fun x1 => if x1 = 0 then (some ((-2), M)) else (b_bind (F_X3_isRuled v1 M) (fun x3 => if x3 = 0 then (b_bind (F_X4_know (M 0 10) M) (fun M5 => b_bind (F_X3_hear v1 (M5 0 10) M5) (fun t => b_two t (fun x6 M7 => some (x6, M7))))) else (some ((-4), M)))))
theorem t_X11_sit {l : Launch} {E : bE} {Q : (Int × bM) → Prop} {v1 : Int} {M : bM} (h : b_wp (F_X11_sit v1 M) (Q)) : V l E xX11_sit (0, 0) 0 [(0, bR 0), (1, bI v1)] [] M (b_pI Q) := by
  unfold F_X11_sit at h
  refine v_aload_n (f := 0) 0 rfl dX11_sit_0 ?_
  refine v_getR (kf := 2) (kz := 2) rfl kd_0 rfl ⟨by decide, by decide⟩ rfl wf_11_26 dX11_sit_1 ?_
  refine v_iload_n (f := 1) 1 rfl dX11_sit_4 ?_
  refine v_cVIp (nA := 1) (As := [bI _]) (ix := 146) (cf_X5_has (b_wp_b h)) rfl kd_3 rfl rfl wc_X5_has wm_11_146 wi_X5_has ws_X5_has wn_5 ⟨by decide, by decide, by decide⟩ rfl ⟨by decide, by decide⟩ ⟨by decide, by decide⟩ (Nat.le_of_ble_eq_true rfl) dX11_sit_5 (fun x1 h => ?_)
  refine v_if_ne (tgt := 14) dX11_sit_8 (by decide) (fun c2 => ?_) (fun c2 => ?_)
  · replace h := b_wp_f c2 h
    refine v_aload_n (f := 0) 0 rfl dX11_sit_14 ?_
    refine v_getR (kf := 8) (kz := 8) rfl kd_0 rfl ⟨by decide, by decide⟩ rfl wf_11_78 dX11_sit_15 ?_
    refine v_iload_n (f := 1) 1 rfl dX11_sit_18 ?_
    refine v_cVIp (nA := 1) (As := [bI _]) (ix := 327) (cf_X3_isRuled (b_wp_b h)) rfl kd_9 rfl rfl wc_X3_isRuled wm_11_327 wi_X3_isRuled ws_X3_isRuled wn_3 ⟨by decide, by decide, by decide⟩ rfl ⟨by decide, by decide⟩ ⟨by decide, by decide⟩ (Nat.le_of_ble_eq_true rfl) dX11_sit_19 (fun x3 h => ?_)
    refine v_if_eq (tgt := 28) dX11_sit_22 (by decide) (fun c4 => ?_) (fun c4 => ?_)
    · replace h := b_wp_t c4 h
      refine v_aload_n (f := 0) 0 rfl dX11_sit_28 ?_
      refine v_getR (kf := 5) (kz := 5) rfl kd_0 rfl ⟨by decide, by decide⟩ rfl wf_11_51 dX11_sit_29 ?_
      refine v_aload_n (f := 0) 0 rfl dX11_sit_32 ?_
      refine v_getI (kf := 10) (kz := 10) rfl kd_0 rfl ⟨by decide, by decide⟩ rfl wf_11_91 dX11_sit_33 ?_
      refine v_cVV (nA := 1) (As := [bI _]) (ix := 284) (cf_X4_know (b_wp_b h)) rfl kd_6 rfl rfl wc_X4_know wm_11_284 wi_X4_know ws_X4_know wn_4 ⟨by decide, by decide, by decide⟩ rfl ⟨by decide, by decide⟩ ⟨by decide, by decide⟩ (Nat.le_of_ble_eq_true rfl) dX11_sit_36 (fun M5 h => ?_)
      refine v_aload_n (f := 0) 0 rfl dX11_sit_39 ?_
      refine v_getR (kf := 8) (kz := 8) rfl kd_0 rfl ⟨by decide, by decide⟩ rfl wf_11_78 dX11_sit_40 ?_
      refine v_iload_n (f := 1) 1 rfl dX11_sit_43 ?_
      refine v_aload_n (f := 0) 0 rfl dX11_sit_44 ?_
      refine v_getI (kf := 10) (kz := 10) rfl kd_0 rfl ⟨by decide, by decide⟩ rfl wf_11_91 dX11_sit_45 ?_
      refine v_cVI (nA := 2) (As := [bI _, bI _]) (ix := 330) (cf_X3_hear (b_wp_b h)) rfl kd_9 rfl rfl wc_X3_hear wm_11_330 wi_X3_hear ws_X3_hear wn_3 ⟨by decide, by decide, by decide⟩ rfl ⟨by decide, by decide⟩ ⟨by decide, by decide⟩ (Nat.le_of_ble_eq_true rfl) dX11_sit_48 (fun x6 M7 h => ?_)
      replace h := b_wp_two h
      refine v_ireturn rfl dX11_sit_51 ⟨by decide, by decide⟩ ?_
      exact ⟨_, rfl, h⟩
    · replace h := b_wp_f c4 h
      refine v_bipush ⟨by decide, by decide⟩ (by decide) dX11_sit_25 ?_
      refine v_ireturn rfl dX11_sit_27 ⟨by decide, by decide⟩ ?_
      exact ⟨_, rfl, h⟩
  · replace h := b_wp_t c2 h
    refine v_bipush ⟨by decide, by decide⟩ (by decide) dX11_sit_11 ?_
    refine v_ireturn rfl dX11_sit_13 ⟨by decide, by decide⟩ ?_
    exact ⟨_, rfl, h⟩
theorem cf_X11_sit {l : Launch} {E : bE} {M : bM} {v1 : Int} {Q : (Int × bM) → Prop} (h : b_wp (F_X11_sit v1 M) Q) : b_C l E xX11_sit yX11_sit [bR 0, bI v1] M (b_pI Q) := b_met (by decide) ⟨rfl, rfl⟩ (Nat.le_of_ble_eq_true rfl) (fun _ _ => t_X11_sit h)
abbrev xX3_has : bX := ("BurntHall$Claims", prog_5_method_2_code, 2, (Option.some Jvm.ClassFile.FieldType.boolean), b_rm 1 0 0, 0, "has")
abbrev yX3_has : MethodName := ⟨"BurntHall$Claims", "has", "(I)Z"⟩
theorem dX3_has_0 : decode prog_5_method_2_code 0 = .ok (.iload_n 1, 1) := by decide +kernel
theorem dX3_has_1 : decode prog_5_method_2_code 1 = .ok (.ifCond .lt 15, 3) := by decide +kernel
theorem dX3_has_4 : decode prog_5_method_2_code 4 = .ok (.iload_n 1, 1) := by decide +kernel
theorem dX3_has_5 : decode prog_5_method_2_code 5 = .ok (.aload_n 0, 1) := by decide +kernel
theorem dX3_has_6 : decode prog_5_method_2_code 6 = .ok (.getfield 50, 3) := by decide +kernel
theorem dX3_has_9 : decode prog_5_method_2_code 9 = .ok (.if_icmp .ge 7, 3) := by decide +kernel
theorem dX3_has_12 : decode prog_5_method_2_code 12 = .ok (.iconst 1, 1) := by decide +kernel
theorem dX3_has_13 : decode prog_5_method_2_code 13 = .ok (.goto 4, 3) := by decide +kernel
theorem dX3_has_16 : decode prog_5_method_2_code 16 = .ok (.iconst 0, 1) := by decide +kernel
theorem dX3_has_17 : decode prog_5_method_2_code 17 = .ok (.ireturn, 1) := by decide +kernel
noncomputable def F_X3_has (v1 : Int) (M : bM) : Option (Int) :=
  if v1 < 0 then (some 0) else (if (M 9 0) ≤ v1 then (some 0) else (some 1))
theorem t_X3_has {l : Launch} {E : bE} {Q : Int → Prop} {v1 : Int} {M : bM} (h : b_wp (F_X3_has v1 M) (Q)) : V l E xX3_has (0, 0) 0 [(0, bR 9), (1, bI v1)] [] M (b_pIp M Q) := by
  unfold F_X3_has at h
  refine v_iload_n (f := 1) 1 rfl dX3_has_0 ?_
  refine v_if_lt (tgt := 16) dX3_has_1 (by decide) (fun c1 => ?_) (fun c1 => ?_)
  · replace h := b_wp_t c1 h
    refine v_iconst ⟨by decide, by decide⟩ dX3_has_16 ?_
    refine v_zreturn rfl (Or.inl rfl) dX3_has_17 ⟨by decide, by decide⟩ ?_
    exact ⟨_, rfl, rfl, h⟩
  · replace h := b_wp_f c1 h
    refine v_iload_n (f := 1) 1 rfl dX3_has_4 ?_
    refine v_aload_n (f := 0) 0 rfl dX3_has_5 ?_
    refine v_getI (kf := 0) (kz := 0) rfl kd_9 rfl ⟨by decide, by decide⟩ rfl wf_3_50 dX3_has_6 ?_
    refine v_icmp_ge (tgt := 16) dX3_has_9 (by decide) (fun c2 => ?_) (fun c2 => ?_)
    · replace h := b_wp_t c2 h
      refine v_iconst ⟨by decide, by decide⟩ dX3_has_16 ?_
      refine v_zreturn rfl (Or.inl rfl) dX3_has_17 ⟨by decide, by decide⟩ ?_
      exact ⟨_, rfl, rfl, h⟩
    · replace h := b_wp_f c2 h
      refine v_iconst ⟨by decide, by decide⟩ dX3_has_12 ?_
      refine v_goto (tgt := 17) dX3_has_13 (by decide) ?_
      refine v_zreturn rfl (Or.inr rfl) dX3_has_17 ⟨by decide, by decide⟩ ?_
      exact ⟨_, rfl, rfl, h⟩
theorem cf_X3_has {l : Launch} {E : bE} {M : bM} {v1 : Int} {Q : Int → Prop} (h : b_wp (F_X3_has v1 M) Q) : b_C l E xX3_has yX3_has [bR 9, bI v1] M (b_pIp M Q) := b_met (by decide) ⟨rfl, rfl⟩ (Nat.le_of_ble_eq_true rfl) (fun _ _ => t_X3_has h)
abbrev xX11_worth : bX := ("BurntHall", prog_1_method_46_code, 2, (Option.some Jvm.ClassFile.FieldType.int), b_rm 7 0 0, 0, "worth")
abbrev yX11_worth : MethodName := ⟨"BurntHall", "worth", "(I)I"⟩
theorem dX11_worth_0 : decode prog_1_method_46_code 0 = .ok (.aload_n 0, 1) := by decide +kernel
theorem dX11_worth_1 : decode prog_1_method_46_code 1 = .ok (.getfield 78, 3) := by decide +kernel
theorem dX11_worth_4 : decode prog_1_method_46_code 4 = .ok (.iload_n 1, 1) := by decide +kernel
theorem dX11_worth_5 : decode prog_1_method_46_code 5 = .ok (.invokevirtual 333, 3) := by decide +kernel
theorem dX11_worth_8 : decode prog_1_method_46_code 8 = .ok (.ifCond .ne 6, 3) := by decide +kernel
theorem dX11_worth_11 : decode prog_1_method_46_code 11 = .ok (.bipush (-2), 2) := by decide +kernel
theorem dX11_worth_13 : decode prog_1_method_46_code 13 = .ok (.ireturn, 1) := by decide +kernel
theorem dX11_worth_14 : decode prog_1_method_46_code 14 = .ok (.aload_n 0, 1) := by decide +kernel
theorem dX11_worth_15 : decode prog_1_method_46_code 15 = .ok (.getfield 51, 3) := by decide +kernel
theorem dX11_worth_18 : decode prog_1_method_46_code 18 = .ok (.aload_n 0, 1) := by decide +kernel
theorem dX11_worth_19 : decode prog_1_method_46_code 19 = .ok (.getfield 91, 3) := by decide +kernel
theorem dX11_worth_22 : decode prog_1_method_46_code 22 = .ok (.invokevirtual 284, 3) := by decide +kernel
theorem dX11_worth_25 : decode prog_1_method_46_code 25 = .ok (.aload_n 0, 1) := by decide +kernel
theorem dX11_worth_26 : decode prog_1_method_46_code 26 = .ok (.getfield 78, 3) := by decide +kernel
theorem dX11_worth_29 : decode prog_1_method_46_code 29 = .ok (.iload_n 1, 1) := by decide +kernel
theorem dX11_worth_30 : decode prog_1_method_46_code 30 = .ok (.aload_n 0, 1) := by decide +kernel
theorem dX11_worth_31 : decode prog_1_method_46_code 31 = .ok (.getfield 91, 3) := by decide +kernel
theorem dX11_worth_34 : decode prog_1_method_46_code 34 = .ok (.invokevirtual 334, 3) := by decide +kernel
theorem dX11_worth_37 : decode prog_1_method_46_code 37 = .ok (.ireturn, 1) := by decide +kernel
noncomputable def F_X11_worth (v1 : Int) (M : bM) : Option (Int × bM) :=
  b_bind (F_X3_has v1 M) (fun x1 => if x1 = 0 then (some ((-2), M)) else (b_bind (F_X4_know (M 0 10) M) (fun M3 => b_bind (F_X3_appraise v1 (M3 0 10) M3) (fun t => b_two t (fun x4 M5 => some (x4, M5))))))
theorem t_X11_worth {l : Launch} {E : bE} {Q : (Int × bM) → Prop} {v1 : Int} {M : bM} (h : b_wp (F_X11_worth v1 M) (Q)) : V l E xX11_worth (0, 0) 0 [(0, bR 0), (1, bI v1)] [] M (b_pI Q) := by
  unfold F_X11_worth at h
  refine v_aload_n (f := 0) 0 rfl dX11_worth_0 ?_
  refine v_getR (kf := 8) (kz := 8) rfl kd_0 rfl ⟨by decide, by decide⟩ rfl wf_11_78 dX11_worth_1 ?_
  refine v_iload_n (f := 1) 1 rfl dX11_worth_4 ?_
  refine v_cVIp (nA := 1) (As := [bI _]) (ix := 333) (cf_X3_has (b_wp_b h)) rfl kd_9 rfl rfl wc_X3_has wm_11_333 wi_X3_has ws_X3_has wn_3 ⟨by decide, by decide, by decide⟩ rfl ⟨by decide, by decide⟩ ⟨by decide, by decide⟩ (Nat.le_of_ble_eq_true rfl) dX11_worth_5 (fun x1 h => ?_)
  refine v_if_ne (tgt := 14) dX11_worth_8 (by decide) (fun c2 => ?_) (fun c2 => ?_)
  · replace h := b_wp_f c2 h
    refine v_aload_n (f := 0) 0 rfl dX11_worth_14 ?_
    refine v_getR (kf := 5) (kz := 5) rfl kd_0 rfl ⟨by decide, by decide⟩ rfl wf_11_51 dX11_worth_15 ?_
    refine v_aload_n (f := 0) 0 rfl dX11_worth_18 ?_
    refine v_getI (kf := 10) (kz := 10) rfl kd_0 rfl ⟨by decide, by decide⟩ rfl wf_11_91 dX11_worth_19 ?_
    refine v_cVV (nA := 1) (As := [bI _]) (ix := 284) (cf_X4_know (b_wp_b h)) rfl kd_6 rfl rfl wc_X4_know wm_11_284 wi_X4_know ws_X4_know wn_4 ⟨by decide, by decide, by decide⟩ rfl ⟨by decide, by decide⟩ ⟨by decide, by decide⟩ (Nat.le_of_ble_eq_true rfl) dX11_worth_22 (fun M3 h => ?_)
    refine v_aload_n (f := 0) 0 rfl dX11_worth_25 ?_
    refine v_getR (kf := 8) (kz := 8) rfl kd_0 rfl ⟨by decide, by decide⟩ rfl wf_11_78 dX11_worth_26 ?_
    refine v_iload_n (f := 1) 1 rfl dX11_worth_29 ?_
    refine v_aload_n (f := 0) 0 rfl dX11_worth_30 ?_
    refine v_getI (kf := 10) (kz := 10) rfl kd_0 rfl ⟨by decide, by decide⟩ rfl wf_11_91 dX11_worth_31 ?_
    refine v_cVI (nA := 2) (As := [bI _, bI _]) (ix := 334) (cf_X3_appraise (b_wp_b h)) rfl kd_9 rfl rfl wc_X3_appraise wm_11_334 wi_X3_appraise ws_X3_appraise wn_3 ⟨by decide, by decide, by decide⟩ rfl ⟨by decide, by decide⟩ ⟨by decide, by decide⟩ (Nat.le_of_ble_eq_true rfl) dX11_worth_34 (fun x4 M5 h => ?_)
    replace h := b_wp_two h
    refine v_ireturn rfl dX11_worth_37 ⟨by decide, by decide⟩ ?_
    exact ⟨_, rfl, h⟩
  · replace h := b_wp_t c2 h
    refine v_bipush ⟨by decide, by decide⟩ (by decide) dX11_worth_11 ?_
    refine v_ireturn rfl dX11_worth_13 ⟨by decide, by decide⟩ ?_
    exact ⟨_, rfl, h⟩
theorem cf_X11_worth {l : Launch} {E : bE} {M : bM} {v1 : Int} {Q : (Int × bM) → Prop} (h : b_wp (F_X11_worth v1 M) Q) : b_C l E xX11_worth yX11_worth [bR 0, bI v1] M (b_pI Q) := b_met (by decide) ⟨rfl, rfl⟩ (Nat.le_of_ble_eq_true rfl) (fun _ _ => t_X11_worth h)
abbrev xX3_winnerOf : bX := ("BurntHall$Claims", prog_5_method_6_code, 2, (Option.some Jvm.ClassFile.FieldType.int), b_rm 1 0 0, 0, "winnerOf")
abbrev yX3_winnerOf : MethodName := ⟨"BurntHall$Claims", "winnerOf", "(I)I"⟩
theorem dX3_winnerOf_0 : decode prog_5_method_6_code 0 = .ok (.aload_n 0, 1) := by decide +kernel
theorem dX3_winnerOf_1 : decode prog_5_method_6_code 1 = .ok (.getfield 29, 3) := by decide +kernel
theorem dX3_winnerOf_4 : decode prog_5_method_6_code 4 = .ok (.iload_n 1, 1) := by decide +kernel
theorem dX3_winnerOf_5 : decode prog_5_method_6_code 5 = .ok (.iaload, 1) := by decide +kernel
theorem dX3_winnerOf_6 : decode prog_5_method_6_code 6 = .ok (.iconst 1, 1) := by decide +kernel
theorem dX3_winnerOf_7 : decode prog_5_method_6_code 7 = .ok (.isub, 1) := by decide +kernel
theorem dX3_winnerOf_8 : decode prog_5_method_6_code 8 = .ok (.ireturn, 1) := by decide +kernel
noncomputable def F_X3_winnerOf (v1 : Int) (M : bM) : Option (Int) :=
  b_g ((0 ≤ v1 ∧ v1 < 60) ∧ (b_i32 ((M 152 v1) - 1))) (some ((M 152 v1) - 1))
theorem t_X3_winnerOf {l : Launch} {E : bE} {Q : Int → Prop} {v1 : Int} {M : bM} (h : b_wp (F_X3_winnerOf v1 M) (Q)) : V l E xX3_winnerOf (0, 0) 0 [(0, bR 9), (1, bI v1)] [] M (b_pIp M Q) := by
  unfold F_X3_winnerOf at h
  obtain ⟨⟨g1, g2⟩, h⟩ := b_wp_g h
  refine v_aload_n (f := 0) 0 rfl dX3_winnerOf_0 ?_
  refine v_getR (kf := 10) (kz := 10) rfl kd_9 rfl ⟨by decide, by decide⟩ rfl wf_3_29 dX3_winnerOf_1 ?_
  refine v_iload_n (f := 1) 1 rfl dX3_winnerOf_4 ?_
  refine v_iaload kd_152 g1 (by decide) dX3_winnerOf_5 ?_
  refine v_iconst ⟨by decide, by decide⟩ dX3_winnerOf_6 ?_
  refine v_isubN g2 dX3_winnerOf_7 ?_
  refine v_ireturn rfl dX3_winnerOf_8 ⟨by decide, by decide⟩ ?_
  exact ⟨_, rfl, rfl, h⟩
theorem cf_X3_winnerOf {l : Launch} {E : bE} {M : bM} {v1 : Int} {Q : Int → Prop} (h : b_wp (F_X3_winnerOf v1 M) Q) : b_C l E xX3_winnerOf yX3_winnerOf [bR 9, bI v1] M (b_pIp M Q) := b_met (by decide) ⟨rfl, rfl⟩ (Nat.le_of_ble_eq_true rfl) (fun _ _ => t_X3_winnerOf h)
abbrev xX3_isDoubtful : bX := ("BurntHall$Claims", prog_5_method_7_code, 4, (Option.some Jvm.ClassFile.FieldType.boolean), b_rm 2 0 0, 0, "isDoubtful")
abbrev yX3_isDoubtful : MethodName := ⟨"BurntHall$Claims", "isDoubtful", "(II)Z"⟩
theorem dX3_isDoubtful_0 : decode prog_5_method_7_code 0 = .ok (.aload_n 0, 1) := by decide +kernel
theorem dX3_isDoubtful_1 : decode prog_5_method_7_code 1 = .ok (.iload_n 1, 1) := by decide +kernel
theorem dX3_isDoubtful_2 : decode prog_5_method_7_code 2 = .ok (.invokevirtual 58, 3) := by decide +kernel
theorem dX3_isDoubtful_5 : decode prog_5_method_7_code 5 = .ok (.istore_n 3, 1) := by decide +kernel
theorem dX3_isDoubtful_6 : decode prog_5_method_7_code 6 = .ok (.aload_n 0, 1) := by decide +kernel
theorem dX3_isDoubtful_7 : decode prog_5_method_7_code 7 = .ok (.iload_n 3, 1) := by decide +kernel
theorem dX3_isDoubtful_8 : decode prog_5_method_7_code 8 = .ok (.invokevirtual 62, 3) := by decide +kernel
theorem dX3_isDoubtful_11 : decode prog_5_method_7_code 11 = .ok (.ifCond .eq 34, 3) := by decide +kernel
theorem dX3_isDoubtful_14 : decode prog_5_method_7_code 14 = .ok (.aload_n 0, 1) := by decide +kernel
theorem dX3_isDoubtful_15 : decode prog_5_method_7_code 15 = .ok (.getfield 21, 3) := by decide +kernel
theorem dX3_isDoubtful_18 : decode prog_5_method_7_code 18 = .ok (.iload_n 3, 1) := by decide +kernel
theorem dX3_isDoubtful_19 : decode prog_5_method_7_code 19 = .ok (.iaload, 1) := by decide +kernel
theorem dX3_isDoubtful_20 : decode prog_5_method_7_code 20 = .ok (.iconst 2, 1) := by decide +kernel
theorem dX3_isDoubtful_21 : decode prog_5_method_7_code 21 = .ok (.if_icmp .ne 24, 3) := by decide +kernel
theorem dX3_isDoubtful_24 : decode prog_5_method_7_code 24 = .ok (.iload_n 2, 1) := by decide +kernel
theorem dX3_isDoubtful_25 : decode prog_5_method_7_code 25 = .ok (.aload_n 0, 1) := by decide +kernel
theorem dX3_isDoubtful_26 : decode prog_5_method_7_code 26 = .ok (.getfield 32, 3) := by decide +kernel
theorem dX3_isDoubtful_29 : decode prog_5_method_7_code 29 = .ok (.iload_n 1, 1) := by decide +kernel
theorem dX3_isDoubtful_30 : decode prog_5_method_7_code 30 = .ok (.iaload, 1) := by decide +kernel
theorem dX3_isDoubtful_31 : decode prog_5_method_7_code 31 = .ok (.isub, 1) := by decide +kernel
theorem dX3_isDoubtful_32 : decode prog_5_method_7_code 32 = .ok (.aload_n 0, 1) := by decide +kernel
theorem dX3_isDoubtful_33 : decode prog_5_method_7_code 33 = .ok (.getfield 35, 3) := by decide +kernel
theorem dX3_isDoubtful_36 : decode prog_5_method_7_code 36 = .ok (.iload_n 1, 1) := by decide +kernel
theorem dX3_isDoubtful_37 : decode prog_5_method_7_code 37 = .ok (.iaload, 1) := by decide +kernel
theorem dX3_isDoubtful_38 : decode prog_5_method_7_code 38 = .ok (.if_icmp .ge 7, 3) := by decide +kernel
theorem dX3_isDoubtful_41 : decode prog_5_method_7_code 41 = .ok (.iconst 1, 1) := by decide +kernel
theorem dX3_isDoubtful_42 : decode prog_5_method_7_code 42 = .ok (.goto 4, 3) := by decide +kernel
theorem dX3_isDoubtful_45 : decode prog_5_method_7_code 45 = .ok (.iconst 0, 1) := by decide +kernel
theorem dX3_isDoubtful_46 : decode prog_5_method_7_code 46 = .ok (.ireturn, 1) := by decide +kernel
noncomputable def F_X3_isDoubtful (v1 : Int) (v2 : Int) (M : bM) : Option (Int) :=
  b_bind (F_X3_winnerOf v1 M) (fun x1 => b_bind (F_X3_has x1 M) (fun x2 => if x2 = 0 then (some 0) else (b_g (0 ≤ x1 ∧ x1 < 30) (if (M 150 x1) = 2 then (b_g ((0 ≤ v1 ∧ v1 < 60) ∧ (b_i32 (v2 - (M 153 v1)))) (if (M 154 v1) ≤ (v2 - (M 153 v1)) then (some 0) else (some 1))) else (some 0)))))
theorem t_X3_isDoubtful {l : Launch} {E : bE} {Q : Int → Prop} {v1 : Int} {v2 : Int} {M : bM} (h : b_wp (F_X3_isDoubtful v1 v2 M) (Q)) : V l E xX3_isDoubtful (0, 0) 0 [(0, bR 9), (1, bI v1), (2, bI v2)] [] M (b_pIp M Q) := by
  unfold F_X3_isDoubtful at h
  refine v_aload_n (f := 0) 0 rfl dX3_isDoubtful_0 ?_
  refine v_iload_n (f := 1) 1 rfl dX3_isDoubtful_1 ?_
  refine v_cVIp (nA := 1) (As := [bI _]) (ix := 58) (cf_X3_winnerOf (b_wp_b h)) rfl kd_9 rfl rfl wc_X3_winnerOf wm_3_58 wi_X3_winnerOf ws_X3_winnerOf wn_3 ⟨by decide, by decide, by decide⟩ rfl ⟨by decide, by decide⟩ ⟨by decide, by decide⟩ (Nat.le_of_ble_eq_true rfl) dX3_isDoubtful_2 (fun x1 h => ?_)
  refine v_istore_n (g := 3) (i := 3) (ls' := [(3, bI _), (0, bR _), (1, bI _), (2, bI _)]) rfl (by decide) dX3_isDoubtful_5 rfl ?_
  refine v_aload_n (f := 0) 1 rfl dX3_isDoubtful_6 ?_
  refine v_iload_n (f := 3) 0 rfl dX3_isDoubtful_7 ?_
  refine v_cVIp (nA := 1) (As := [bI _]) (ix := 62) (cf_X3_has (b_wp_b h)) rfl kd_9 rfl rfl wc_X3_has wm_3_62 wi_X3_has ws_X3_has wn_3 ⟨by decide, by decide, by decide⟩ rfl ⟨by decide, by decide⟩ ⟨by decide, by decide⟩ (Nat.le_of_ble_eq_true rfl) dX3_isDoubtful_8 (fun x2 h => ?_)
  refine v_if_eq (tgt := 45) dX3_isDoubtful_11 (by decide) (fun c3 => ?_) (fun c3 => ?_)
  · replace h := b_wp_t c3 h
    refine v_iconst ⟨by decide, by decide⟩ dX3_isDoubtful_45 ?_
    refine v_zreturn rfl (Or.inl rfl) dX3_isDoubtful_46 ⟨by decide, by decide⟩ ?_
    exact ⟨_, rfl, rfl, h⟩
  · replace h := b_wp_f c3 h
    obtain ⟨g4, h⟩ := b_wp_g h
    refine v_aload_n (f := 0) 1 rfl dX3_isDoubtful_14 ?_
    refine v_getR (kf := 8) (kz := 8) rfl kd_9 rfl ⟨by decide, by decide⟩ rfl wf_3_21 dX3_isDoubtful_15 ?_
    refine v_iload_n (f := 3) 0 rfl dX3_isDoubtful_18 ?_
    refine v_iaload kd_150 g4 (by decide) dX3_isDoubtful_19 ?_
    refine v_iconst ⟨by decide, by decide⟩ dX3_isDoubtful_20 ?_
    refine v_icmp_ne (tgt := 45) dX3_isDoubtful_21 (by decide) (fun c5 => ?_) (fun c5 => ?_)
    · replace h := b_wp_f c5 h
      refine v_iconst ⟨by decide, by decide⟩ dX3_isDoubtful_45 ?_
      refine v_zreturn rfl (Or.inl rfl) dX3_isDoubtful_46 ⟨by decide, by decide⟩ ?_
      exact ⟨_, rfl, rfl, h⟩
    · replace h := b_wp_t c5 h
      obtain ⟨⟨g6, g7⟩, h⟩ := b_wp_g h
      refine v_iload_n (f := 2) 3 rfl dX3_isDoubtful_24 ?_
      refine v_aload_n (f := 0) 1 rfl dX3_isDoubtful_25 ?_
      refine v_getR (kf := 11) (kz := 11) rfl kd_9 rfl ⟨by decide, by decide⟩ rfl wf_3_32 dX3_isDoubtful_26 ?_
      refine v_iload_n (f := 1) 2 rfl dX3_isDoubtful_29 ?_
      refine v_iaload kd_153 g6 (by decide) dX3_isDoubtful_30 ?_
      refine v_isubN g7 dX3_isDoubtful_31 ?_
      refine v_aload_n (f := 0) 1 rfl dX3_isDoubtful_32 ?_
      refine v_getR (kf := 12) (kz := 12) rfl kd_9 rfl ⟨by decide, by decide⟩ rfl wf_3_35 dX3_isDoubtful_33 ?_
      refine v_iload_n (f := 1) 2 rfl dX3_isDoubtful_36 ?_
      refine v_iaload kd_154 g6 (by decide) dX3_isDoubtful_37 ?_
      refine v_icmp_ge (tgt := 45) dX3_isDoubtful_38 (by decide) (fun c8 => ?_) (fun c8 => ?_)
      · replace h := b_wp_t c8 h
        refine v_iconst ⟨by decide, by decide⟩ dX3_isDoubtful_45 ?_
        refine v_zreturn rfl (Or.inl rfl) dX3_isDoubtful_46 ⟨by decide, by decide⟩ ?_
        exact ⟨_, rfl, rfl, h⟩
      · replace h := b_wp_f c8 h
        refine v_iconst ⟨by decide, by decide⟩ dX3_isDoubtful_41 ?_
        refine v_goto (tgt := 46) dX3_isDoubtful_42 (by decide) ?_
        refine v_zreturn rfl (Or.inr rfl) dX3_isDoubtful_46 ⟨by decide, by decide⟩ ?_
        exact ⟨_, rfl, rfl, h⟩
theorem cf_X3_isDoubtful {l : Launch} {E : bE} {M : bM} {v1 : Int} {v2 : Int} {Q : Int → Prop} (h : b_wp (F_X3_isDoubtful v1 v2 M) Q) : b_C l E xX3_isDoubtful yX3_isDoubtful [bR 9, bI v1, bI v2] M (b_pIp M Q) := b_met (by decide) ⟨rfl, rfl⟩ (Nat.le_of_ble_eq_true rfl) (fun _ _ => t_X3_isDoubtful h)
abbrev xX3_stateOf : bX := ("BurntHall$Claims", prog_5_method_8_code, 3, (Option.some Jvm.ClassFile.FieldType.int), b_rm 3 0 0, 0, "stateOf")
abbrev yX3_stateOf : MethodName := ⟨"BurntHall$Claims", "stateOf", "(II)I"⟩
theorem dX3_stateOf_0 : decode prog_5_method_8_code 0 = .ok (.aload_n 0, 1) := by decide +kernel
theorem dX3_stateOf_1 : decode prog_5_method_8_code 1 = .ok (.getfield 21, 3) := by decide +kernel
theorem dX3_stateOf_4 : decode prog_5_method_8_code 4 = .ok (.iload_n 1, 1) := by decide +kernel
theorem dX3_stateOf_5 : decode prog_5_method_8_code 5 = .ok (.iaload, 1) := by decide +kernel
theorem dX3_stateOf_6 : decode prog_5_method_8_code 6 = .ok (.iconst 2, 1) := by decide +kernel
theorem dX3_stateOf_7 : decode prog_5_method_8_code 7 = .ok (.if_icmp .ne 21, 3) := by decide +kernel
theorem dX3_stateOf_10 : decode prog_5_method_8_code 10 = .ok (.aload_n 0, 1) := by decide +kernel
theorem dX3_stateOf_11 : decode prog_5_method_8_code 11 = .ok (.aload_n 0, 1) := by decide +kernel
theorem dX3_stateOf_12 : decode prog_5_method_8_code 12 = .ok (.getfield 15, 3) := by decide +kernel
theorem dX3_stateOf_15 : decode prog_5_method_8_code 15 = .ok (.iload_n 1, 1) := by decide +kernel
theorem dX3_stateOf_16 : decode prog_5_method_8_code 16 = .ok (.iaload, 1) := by decide +kernel
theorem dX3_stateOf_17 : decode prog_5_method_8_code 17 = .ok (.iload_n 2, 1) := by decide +kernel
theorem dX3_stateOf_18 : decode prog_5_method_8_code 18 = .ok (.invokevirtual 66, 3) := by decide +kernel
theorem dX3_stateOf_21 : decode prog_5_method_8_code 21 = .ok (.ifCond .ne 7, 3) := by decide +kernel
theorem dX3_stateOf_24 : decode prog_5_method_8_code 24 = .ok (.iconst 1, 1) := by decide +kernel
theorem dX3_stateOf_25 : decode prog_5_method_8_code 25 = .ok (.goto 9, 3) := by decide +kernel
theorem dX3_stateOf_28 : decode prog_5_method_8_code 28 = .ok (.aload_n 0, 1) := by decide +kernel
theorem dX3_stateOf_29 : decode prog_5_method_8_code 29 = .ok (.getfield 21, 3) := by decide +kernel
theorem dX3_stateOf_32 : decode prog_5_method_8_code 32 = .ok (.iload_n 1, 1) := by decide +kernel
theorem dX3_stateOf_33 : decode prog_5_method_8_code 33 = .ok (.iaload, 1) := by decide +kernel
theorem dX3_stateOf_34 : decode prog_5_method_8_code 34 = .ok (.ireturn, 1) := by decide +kernel
noncomputable def F_X3_stateOf_b28 (v1 : Int) (M : bM) : Option (Int) :=
  b_g (0 ≤ v1 ∧ v1 < 30) (some (M 150 v1))
theorem t_X3_stateOf_b28 {l : Launch} {E : bE} {Q : Int → Prop} {v1 : Int} {M : bM} (h : b_wp (F_X3_stateOf_b28 v1 M) (Q)) : V l E xX3_stateOf (0, 0) 28 [(0, bR 9), (1, bI v1)] [] M (b_pIp M Q) := by
  unfold F_X3_stateOf_b28 at h
  obtain ⟨g3, h⟩ := b_wp_g h
  refine v_aload_n (f := 0) 0 rfl dX3_stateOf_28 ?_
  refine v_getR (kf := 8) (kz := 8) rfl kd_9 rfl ⟨by decide, by decide⟩ rfl wf_3_21 dX3_stateOf_29 ?_
  refine v_iload_n (f := 1) 1 rfl dX3_stateOf_32 ?_
  refine v_iaload kd_150 g3 (by decide) dX3_stateOf_33 ?_
  refine v_ireturn rfl dX3_stateOf_34 ⟨by decide, by decide⟩ ?_
  exact ⟨_, rfl, rfl, h⟩
noncomputable def F_X3_stateOf (v1 : Int) (v2 : Int) (M : bM) : Option (Int) :=
  b_g (0 ≤ v1 ∧ v1 < 30) (if (M 150 v1) = 2 then (b_g (0 ≤ v1 ∧ v1 < 30) (b_bind (F_X3_isDoubtful (M 148 v1) v2 M) (fun x5 => if x5 = 0 then (some 1) else (F_X3_stateOf_b28 v1 M)))) else (F_X3_stateOf_b28 v1 M))
theorem t_X3_stateOf {l : Launch} {E : bE} {Q : Int → Prop} {v1 : Int} {v2 : Int} {M : bM} (h : b_wp (F_X3_stateOf v1 v2 M) (Q)) : V l E xX3_stateOf (0, 0) 0 [(0, bR 9), (1, bI v1), (2, bI v2)] [] M (b_pIp M Q) := by
  unfold F_X3_stateOf at h
  obtain ⟨g1, h⟩ := b_wp_g h
  refine v_aload_n (f := 0) 0 rfl dX3_stateOf_0 ?_
  refine v_getR (kf := 8) (kz := 8) rfl kd_9 rfl ⟨by decide, by decide⟩ rfl wf_3_21 dX3_stateOf_1 ?_
  refine v_iload_n (f := 1) 1 rfl dX3_stateOf_4 ?_
  refine v_iaload kd_150 g1 (by decide) dX3_stateOf_5 ?_
  refine v_iconst ⟨by decide, by decide⟩ dX3_stateOf_6 ?_
  refine v_icmp_ne (tgt := 28) dX3_stateOf_7 (by decide) (fun c2 => ?_) (fun c2 => ?_)
  · replace h := b_wp_f c2 h
    refine v_sub (ls2 := [(0, bR _), (1, bI _)]) [0, 1] rfl ?_
    exact t_X3_stateOf_b28 h
  · replace h := b_wp_t c2 h
    obtain ⟨g4, h⟩ := b_wp_g h
    refine v_aload_n (f := 0) 0 rfl dX3_stateOf_10 ?_
    refine v_aload_n (f := 0) 0 rfl dX3_stateOf_11 ?_
    refine v_getR (kf := 6) (kz := 6) rfl kd_9 rfl ⟨by decide, by decide⟩ rfl wf_3_15 dX3_stateOf_12 ?_
    refine v_iload_n (f := 1) 1 rfl dX3_stateOf_15 ?_
    refine v_iaload kd_148 g4 (by decide) dX3_stateOf_16 ?_
    refine v_iload_n (f := 2) 2 rfl dX3_stateOf_17 ?_
    refine v_cVIp (nA := 2) (As := [bI _, bI _]) (ix := 66) (cf_X3_isDoubtful (b_wp_b h)) rfl kd_9 rfl rfl wc_X3_isDoubtful wm_3_66 wi_X3_isDoubtful ws_X3_isDoubtful wn_3 ⟨by decide, by decide, by decide⟩ rfl ⟨by decide, by decide⟩ ⟨by decide, by decide⟩ (Nat.le_of_ble_eq_true rfl) dX3_stateOf_18 (fun x5 h => ?_)
    refine v_if_ne (tgt := 28) dX3_stateOf_21 (by decide) (fun c6 => ?_) (fun c6 => ?_)
    · replace h := b_wp_f c6 h
      refine v_sub (ls2 := [(0, bR _), (1, bI _)]) [0, 1] rfl ?_
      exact t_X3_stateOf_b28 h
    · replace h := b_wp_t c6 h
      refine v_iconst ⟨by decide, by decide⟩ dX3_stateOf_24 ?_
      refine v_goto (tgt := 34) dX3_stateOf_25 (by decide) ?_
      refine v_ireturn rfl dX3_stateOf_34 ⟨by decide, by decide⟩ ?_
      exact ⟨_, rfl, rfl, h⟩
theorem cf_X3_stateOf {l : Launch} {E : bE} {M : bM} {v1 : Int} {v2 : Int} {Q : Int → Prop} (h : b_wp (F_X3_stateOf v1 v2 M) Q) : b_C l E xX3_stateOf yX3_stateOf [bR 9, bI v1, bI v2] M (b_pIp M Q) := b_met (by decide) ⟨rfl, rfl⟩ (Nat.le_of_ble_eq_true rfl) (fun _ _ => t_X3_stateOf h)
abbrev xX3_tellAbout : bX := ("BurntHall$Claims", prog_5_method_10_code, 4, (Option.some Jvm.ClassFile.FieldType.int), b_rm 4 0 0, 0, "tellAbout")
abbrev yX3_tellAbout : MethodName := ⟨"BurntHall$Claims", "tellAbout", "(III)I"⟩
theorem dX3_tellAbout_0 : decode prog_5_method_10_code 0 = .ok (.iload_n 2, 1) := by decide +kernel
theorem dX3_tellAbout_1 : decode prog_5_method_10_code 1 = .ok (.tableswitch 70 0 4 #[35, 42, 49, 56, 63], 35) := by decide +kernel
theorem dX3_tellAbout_36 : decode prog_5_method_10_code 36 = .ok (.aload_n 0, 1) := by decide +kernel
theorem dX3_tellAbout_37 : decode prog_5_method_10_code 37 = .ok (.getfield 11, 3) := by decide +kernel
theorem dX3_tellAbout_40 : decode prog_5_method_10_code 40 = .ok (.iload_n 1, 1) := by decide +kernel
theorem dX3_tellAbout_41 : decode prog_5_method_10_code 41 = .ok (.iaload, 1) := by decide +kernel
theorem dX3_tellAbout_42 : decode prog_5_method_10_code 42 = .ok (.ireturn, 1) := by decide +kernel
theorem dX3_tellAbout_43 : decode prog_5_method_10_code 43 = .ok (.aload_n 0, 1) := by decide +kernel
theorem dX3_tellAbout_44 : decode prog_5_method_10_code 44 = .ok (.getfield 15, 3) := by decide +kernel
theorem dX3_tellAbout_47 : decode prog_5_method_10_code 47 = .ok (.iload_n 1, 1) := by decide +kernel
theorem dX3_tellAbout_48 : decode prog_5_method_10_code 48 = .ok (.iaload, 1) := by decide +kernel
theorem dX3_tellAbout_49 : decode prog_5_method_10_code 49 = .ok (.ireturn, 1) := by decide +kernel
theorem dX3_tellAbout_50 : decode prog_5_method_10_code 50 = .ok (.aload_n 0, 1) := by decide +kernel
theorem dX3_tellAbout_51 : decode prog_5_method_10_code 51 = .ok (.getfield 18, 3) := by decide +kernel
theorem dX3_tellAbout_54 : decode prog_5_method_10_code 54 = .ok (.iload_n 1, 1) := by decide +kernel
theorem dX3_tellAbout_55 : decode prog_5_method_10_code 55 = .ok (.iaload, 1) := by decide +kernel
theorem dX3_tellAbout_56 : decode prog_5_method_10_code 56 = .ok (.ireturn, 1) := by decide +kernel
theorem dX3_tellAbout_57 : decode prog_5_method_10_code 57 = .ok (.aload_n 0, 1) := by decide +kernel
theorem dX3_tellAbout_58 : decode prog_5_method_10_code 58 = .ok (.iload_n 1, 1) := by decide +kernel
theorem dX3_tellAbout_59 : decode prog_5_method_10_code 59 = .ok (.iload_n 3, 1) := by decide +kernel
theorem dX3_tellAbout_60 : decode prog_5_method_10_code 60 = .ok (.invokevirtual 70, 3) := by decide +kernel
theorem dX3_tellAbout_63 : decode prog_5_method_10_code 63 = .ok (.ireturn, 1) := by decide +kernel
theorem dX3_tellAbout_64 : decode prog_5_method_10_code 64 = .ok (.aload_n 0, 1) := by decide +kernel
theorem dX3_tellAbout_65 : decode prog_5_method_10_code 65 = .ok (.getfield 24, 3) := by decide +kernel
theorem dX3_tellAbout_68 : decode prog_5_method_10_code 68 = .ok (.iload_n 1, 1) := by decide +kernel
theorem dX3_tellAbout_69 : decode prog_5_method_10_code 69 = .ok (.iaload, 1) := by decide +kernel
theorem dX3_tellAbout_70 : decode prog_5_method_10_code 70 = .ok (.ireturn, 1) := by decide +kernel
theorem dX3_tellAbout_71 : decode prog_5_method_10_code 71 = .ok (.bipush (-9), 2) := by decide +kernel
theorem dX3_tellAbout_73 : decode prog_5_method_10_code 73 = .ok (.ireturn, 1) := by decide +kernel
noncomputable def F_X3_tellAbout (v1 : Int) (v2 : Int) (v3 : Int) (M : bM) : Option (Int) :=
  if v2 = 0 then (b_g (0 ≤ v1 ∧ v1 < 30) (some (M 147 v1))) else (if v2 = 1 then (b_g (0 ≤ v1 ∧ v1 < 30) (some (M 148 v1))) else (if v2 = 2 then (b_g (0 ≤ v1 ∧ v1 < 30) (some (M 149 v1))) else (if v2 = 3 then (b_bind (F_X3_stateOf v1 v3 M) (fun x12 => some x12)) else (if v2 = 4 then (b_g (0 ≤ v1 ∧ v1 < 30) (some (M 151 v1))) else (some (-9))))))
theorem t_X3_tellAbout {l : Launch} {E : bE} {Q : Int → Prop} {v1 : Int} {v2 : Int} {v3 : Int} {M : bM} (h : b_wp (F_X3_tellAbout v1 v2 v3 M) (Q)) : V l E xX3_tellAbout (0, 0) 0 [(0, bR 9), (1, bI v1), (2, bI v2), (3, bI v3)] [] M (b_pIp M Q) := by
  unfold F_X3_tellAbout at h
  refine v_iload_n (f := 2) 2 rfl dX3_tellAbout_0 ?_
  refine v_case (v := 0) (fun c1 => ?_) (fun c2 => ?_)
  · refine v_tsIn (tgt := 36) (0) c1 (by decide) (by decide) rfl dX3_tellAbout_1 (by decide) ?_
    replace h := b_wp_t c1 h
    obtain ⟨g3, h⟩ := b_wp_g h
    refine v_aload_n (f := 0) 0 rfl dX3_tellAbout_36 ?_
    refine v_getR (kf := 5) (kz := 5) rfl kd_9 rfl ⟨by decide, by decide⟩ rfl wf_3_11 dX3_tellAbout_37 ?_
    refine v_iload_n (f := 1) 1 rfl dX3_tellAbout_40 ?_
    refine v_iaload kd_147 g3 (by decide) dX3_tellAbout_41 ?_
    refine v_ireturn rfl dX3_tellAbout_42 ⟨by decide, by decide⟩ ?_
    exact ⟨_, rfl, rfl, h⟩
  replace h := b_wp_f c2 h
  refine v_case (v := 1) (fun c4 => ?_) (fun c5 => ?_)
  · refine v_tsIn (tgt := 43) (1) c4 (by decide) (by decide) rfl dX3_tellAbout_1 (by decide) ?_
    replace h := b_wp_t c4 h
    obtain ⟨g6, h⟩ := b_wp_g h
    refine v_aload_n (f := 0) 0 rfl dX3_tellAbout_43 ?_
    refine v_getR (kf := 6) (kz := 6) rfl kd_9 rfl ⟨by decide, by decide⟩ rfl wf_3_15 dX3_tellAbout_44 ?_
    refine v_iload_n (f := 1) 1 rfl dX3_tellAbout_47 ?_
    refine v_iaload kd_148 g6 (by decide) dX3_tellAbout_48 ?_
    refine v_ireturn rfl dX3_tellAbout_49 ⟨by decide, by decide⟩ ?_
    exact ⟨_, rfl, rfl, h⟩
  replace h := b_wp_f c5 h
  refine v_case (v := 2) (fun c7 => ?_) (fun c8 => ?_)
  · refine v_tsIn (tgt := 50) (2) c7 (by decide) (by decide) rfl dX3_tellAbout_1 (by decide) ?_
    replace h := b_wp_t c7 h
    obtain ⟨g9, h⟩ := b_wp_g h
    refine v_aload_n (f := 0) 0 rfl dX3_tellAbout_50 ?_
    refine v_getR (kf := 7) (kz := 7) rfl kd_9 rfl ⟨by decide, by decide⟩ rfl wf_3_18 dX3_tellAbout_51 ?_
    refine v_iload_n (f := 1) 1 rfl dX3_tellAbout_54 ?_
    refine v_iaload kd_149 g9 (by decide) dX3_tellAbout_55 ?_
    refine v_ireturn rfl dX3_tellAbout_56 ⟨by decide, by decide⟩ ?_
    exact ⟨_, rfl, rfl, h⟩
  replace h := b_wp_f c8 h
  refine v_case (v := 3) (fun c10 => ?_) (fun c11 => ?_)
  · refine v_tsIn (tgt := 57) (3) c10 (by decide) (by decide) rfl dX3_tellAbout_1 (by decide) ?_
    replace h := b_wp_t c10 h
    refine v_aload_n (f := 0) 0 rfl dX3_tellAbout_57 ?_
    refine v_iload_n (f := 1) 1 rfl dX3_tellAbout_58 ?_
    refine v_iload_n (f := 3) 3 rfl dX3_tellAbout_59 ?_
    refine v_cVIp (nA := 2) (As := [bI _, bI _]) (ix := 70) (cf_X3_stateOf (b_wp_b h)) rfl kd_9 rfl rfl wc_X3_stateOf wm_3_70 wi_X3_stateOf ws_X3_stateOf wn_3 ⟨by decide, by decide, by decide⟩ rfl ⟨by decide, by decide⟩ ⟨by decide, by decide⟩ (Nat.le_of_ble_eq_true rfl) dX3_tellAbout_60 (fun x12 h => ?_)
    refine v_ireturn rfl dX3_tellAbout_63 ⟨by decide, by decide⟩ ?_
    exact ⟨_, rfl, rfl, h⟩
  replace h := b_wp_f c11 h
  refine v_case (v := 4) (fun c13 => ?_) (fun c14 => ?_)
  · refine v_tsIn (tgt := 64) (4) c13 (by decide) (by decide) rfl dX3_tellAbout_1 (by decide) ?_
    replace h := b_wp_t c13 h
    obtain ⟨g15, h⟩ := b_wp_g h
    refine v_aload_n (f := 0) 0 rfl dX3_tellAbout_64 ?_
    refine v_getR (kf := 9) (kz := 9) rfl kd_9 rfl ⟨by decide, by decide⟩ rfl wf_3_24 dX3_tellAbout_65 ?_
    refine v_iload_n (f := 1) 1 rfl dX3_tellAbout_68 ?_
    refine v_iaload kd_151 g15 (by decide) dX3_tellAbout_69 ?_
    refine v_ireturn rfl dX3_tellAbout_70 ⟨by decide, by decide⟩ ?_
    exact ⟨_, rfl, rfl, h⟩
  replace h := b_wp_f c14 h
  refine v_tsOut (tgt := 71) (by omega) dX3_tellAbout_1 (by decide) ?_
  refine v_bipush ⟨by decide, by decide⟩ (by decide) dX3_tellAbout_71 ?_
  refine v_ireturn rfl dX3_tellAbout_73 ⟨by decide, by decide⟩ ?_
  exact ⟨_, rfl, rfl, h⟩
theorem cf_X3_tellAbout {l : Launch} {E : bE} {M : bM} {v1 : Int} {v2 : Int} {v3 : Int} {Q : Int → Prop} (h : b_wp (F_X3_tellAbout v1 v2 v3 M) Q) : b_C l E xX3_tellAbout yX3_tellAbout [bR 9, bI v1, bI v2, bI v3] M (b_pIp M Q) := b_met (by decide) ⟨rfl, rfl⟩ (Nat.le_of_ble_eq_true rfl) (fun _ _ => t_X3_tellAbout h)
abbrev xX11_claimed : bX := ("BurntHall", prog_1_method_47_code, 3, (Option.some Jvm.ClassFile.FieldType.int), b_rm 5 0 0, 0, "claimed")
abbrev yX11_claimed : MethodName := ⟨"BurntHall", "claimed", "(II)I"⟩
theorem dX11_claimed_0 : decode prog_1_method_47_code 0 = .ok (.aload_n 0, 1) := by decide +kernel
theorem dX11_claimed_1 : decode prog_1_method_47_code 1 = .ok (.getfield 78, 3) := by decide +kernel
theorem dX11_claimed_4 : decode prog_1_method_47_code 4 = .ok (.iload_n 1, 1) := by decide +kernel
theorem dX11_claimed_5 : decode prog_1_method_47_code 5 = .ok (.invokevirtual 333, 3) := by decide +kernel
theorem dX11_claimed_8 : decode prog_1_method_47_code 8 = .ok (.ifCond .eq 19, 3) := by decide +kernel
theorem dX11_claimed_11 : decode prog_1_method_47_code 11 = .ok (.aload_n 0, 1) := by decide +kernel
theorem dX11_claimed_12 : decode prog_1_method_47_code 12 = .ok (.getfield 78, 3) := by decide +kernel
theorem dX11_claimed_15 : decode prog_1_method_47_code 15 = .ok (.iload_n 1, 1) := by decide +kernel
theorem dX11_claimed_16 : decode prog_1_method_47_code 16 = .ok (.iload_n 2, 1) := by decide +kernel
theorem dX11_claimed_17 : decode prog_1_method_47_code 17 = .ok (.aload_n 0, 1) := by decide +kernel
theorem dX11_claimed_18 : decode prog_1_method_47_code 18 = .ok (.getfield 91, 3) := by decide +kernel
theorem dX11_claimed_21 : decode prog_1_method_47_code 21 = .ok (.invokevirtual 337, 3) := by decide +kernel
theorem dX11_claimed_24 : decode prog_1_method_47_code 24 = .ok (.goto 5, 3) := by decide +kernel
theorem dX11_claimed_27 : decode prog_1_method_47_code 27 = .ok (.bipush (-9), 2) := by decide +kernel
theorem dX11_claimed_29 : decode prog_1_method_47_code 29 = .ok (.ireturn, 1) := by decide +kernel
noncomputable def F_X11_claimed (v1 : Int) (v2 : Int) (M : bM) : Option (Int) :=
  b_bind (F_X3_has v1 M) (fun x1 => if x1 = 0 then (some (-9)) else (b_bind (F_X3_tellAbout v1 v2 (M 0 10) M) (fun x3 => some x3)))
theorem t_X11_claimed {l : Launch} {E : bE} {Q : Int → Prop} {v1 : Int} {v2 : Int} {M : bM} (h : b_wp (F_X11_claimed v1 v2 M) (Q)) : V l E xX11_claimed (0, 0) 0 [(0, bR 0), (1, bI v1), (2, bI v2)] [] M (b_pIp M Q) := by
  unfold F_X11_claimed at h
  refine v_aload_n (f := 0) 0 rfl dX11_claimed_0 ?_
  refine v_getR (kf := 8) (kz := 8) rfl kd_0 rfl ⟨by decide, by decide⟩ rfl wf_11_78 dX11_claimed_1 ?_
  refine v_iload_n (f := 1) 1 rfl dX11_claimed_4 ?_
  refine v_cVIp (nA := 1) (As := [bI _]) (ix := 333) (cf_X3_has (b_wp_b h)) rfl kd_9 rfl rfl wc_X3_has wm_11_333 wi_X3_has ws_X3_has wn_3 ⟨by decide, by decide, by decide⟩ rfl ⟨by decide, by decide⟩ ⟨by decide, by decide⟩ (Nat.le_of_ble_eq_true rfl) dX11_claimed_5 (fun x1 h => ?_)
  refine v_if_eq (tgt := 27) dX11_claimed_8 (by decide) (fun c2 => ?_) (fun c2 => ?_)
  · replace h := b_wp_t c2 h
    refine v_bipush ⟨by decide, by decide⟩ (by decide) dX11_claimed_27 ?_
    refine v_ireturn rfl dX11_claimed_29 ⟨by decide, by decide⟩ ?_
    exact ⟨_, rfl, rfl, h⟩
  · replace h := b_wp_f c2 h
    refine v_aload_n (f := 0) 0 rfl dX11_claimed_11 ?_
    refine v_getR (kf := 8) (kz := 8) rfl kd_0 rfl ⟨by decide, by decide⟩ rfl wf_11_78 dX11_claimed_12 ?_
    refine v_iload_n (f := 1) 1 rfl dX11_claimed_15 ?_
    refine v_iload_n (f := 2) 2 rfl dX11_claimed_16 ?_
    refine v_aload_n (f := 0) 0 rfl dX11_claimed_17 ?_
    refine v_getI (kf := 10) (kz := 10) rfl kd_0 rfl ⟨by decide, by decide⟩ rfl wf_11_91 dX11_claimed_18 ?_
    refine v_cVIp (nA := 3) (As := [bI _, bI _, bI _]) (ix := 337) (cf_X3_tellAbout (b_wp_b h)) rfl kd_9 rfl rfl wc_X3_tellAbout wm_11_337 wi_X3_tellAbout ws_X3_tellAbout wn_3 ⟨by decide, by decide, by decide⟩ rfl ⟨by decide, by decide⟩ ⟨by decide, by decide⟩ (Nat.le_of_ble_eq_true rfl) dX11_claimed_21 (fun x3 h => ?_)
    refine v_goto (tgt := 29) dX11_claimed_24 (by decide) ?_
    refine v_ireturn rfl dX11_claimed_29 ⟨by decide, by decide⟩ ?_
    exact ⟨_, rfl, rfl, h⟩
theorem cf_X11_claimed {l : Launch} {E : bE} {M : bM} {v1 : Int} {v2 : Int} {Q : Int → Prop} (h : b_wp (F_X11_claimed v1 v2 M) Q) : b_C l E xX11_claimed yX11_claimed [bR 0, bI v1, bI v2] M (b_pIp M Q) := b_met (by decide) ⟨rfl, rfl⟩ (Nat.le_of_ble_eq_true rfl) (fun _ _ => t_X11_claimed h)
abbrev xX3_tellRuling : bX := ("BurntHall$Claims", prog_5_method_11_code, 5, (Option.some Jvm.ClassFile.FieldType.int), b_rm 4 0 0, 0, "tellRuling")
abbrev yX3_tellRuling : MethodName := ⟨"BurntHall$Claims", "tellRuling", "(III)I"⟩
theorem dX3_tellRuling_0 : decode prog_5_method_11_code 0 = .ok (.aload_n 0, 1) := by decide +kernel
theorem dX3_tellRuling_1 : decode prog_5_method_11_code 1 = .ok (.iload_n 1, 1) := by decide +kernel
theorem dX3_tellRuling_2 : decode prog_5_method_11_code 2 = .ok (.invokevirtual 58, 3) := by decide +kernel
theorem dX3_tellRuling_5 : decode prog_5_method_11_code 5 = .ok (.istore 4, 2) := by decide +kernel
theorem dX3_tellRuling_7 : decode prog_5_method_11_code 7 = .ok (.iload_n 2, 1) := by decide +kernel
theorem dX3_tellRuling_8 : decode prog_5_method_11_code 8 = .ok (.tableswitch 59 0 2 #[28, 31, 38], 28) := by decide +kernel
theorem dX3_tellRuling_36 : decode prog_5_method_11_code 36 = .ok (.iload 4, 2) := by decide +kernel
theorem dX3_tellRuling_38 : decode prog_5_method_11_code 38 = .ok (.ireturn, 1) := by decide +kernel
theorem dX3_tellRuling_39 : decode prog_5_method_11_code 39 = .ok (.aload_n 0, 1) := by decide +kernel
theorem dX3_tellRuling_40 : decode prog_5_method_11_code 40 = .ok (.getfield 32, 3) := by decide +kernel
theorem dX3_tellRuling_43 : decode prog_5_method_11_code 43 = .ok (.iload_n 1, 1) := by decide +kernel
theorem dX3_tellRuling_44 : decode prog_5_method_11_code 44 = .ok (.iaload, 1) := by decide +kernel
theorem dX3_tellRuling_45 : decode prog_5_method_11_code 45 = .ok (.ireturn, 1) := by decide +kernel
theorem dX3_tellRuling_46 : decode prog_5_method_11_code 46 = .ok (.aload_n 0, 1) := by decide +kernel
theorem dX3_tellRuling_47 : decode prog_5_method_11_code 47 = .ok (.iload 4, 2) := by decide +kernel
theorem dX3_tellRuling_49 : decode prog_5_method_11_code 49 = .ok (.invokevirtual 62, 3) := by decide +kernel
theorem dX3_tellRuling_52 : decode prog_5_method_11_code 52 = .ok (.ifCond .eq 13, 3) := by decide +kernel
theorem dX3_tellRuling_55 : decode prog_5_method_11_code 55 = .ok (.aload_n 0, 1) := by decide +kernel
theorem dX3_tellRuling_56 : decode prog_5_method_11_code 56 = .ok (.iload 4, 2) := by decide +kernel
theorem dX3_tellRuling_58 : decode prog_5_method_11_code 58 = .ok (.iload_n 3, 1) := by decide +kernel
theorem dX3_tellRuling_59 : decode prog_5_method_11_code 59 = .ok (.invokevirtual 70, 3) := by decide +kernel
theorem dX3_tellRuling_62 : decode prog_5_method_11_code 62 = .ok (.goto 4, 3) := by decide +kernel
theorem dX3_tellRuling_65 : decode prog_5_method_11_code 65 = .ok (.iconst (-1), 1) := by decide +kernel
theorem dX3_tellRuling_66 : decode prog_5_method_11_code 66 = .ok (.ireturn, 1) := by decide +kernel
theorem dX3_tellRuling_67 : decode prog_5_method_11_code 67 = .ok (.iconst (-1), 1) := by decide +kernel
theorem dX3_tellRuling_68 : decode prog_5_method_11_code 68 = .ok (.ireturn, 1) := by decide +kernel
noncomputable def F_X3_tellRuling (v1 : Int) (v2 : Int) (v3 : Int) (M : bM) : Option (Int) :=
  b_bind (F_X3_winnerOf v1 M) (fun x1 => if v2 = 0 then (some x1) else (if v2 = 1 then (b_g (0 ≤ v1 ∧ v1 < 60) (some (M 153 v1))) else (if v2 = 2 then (b_bind (F_X3_has x1 M) (fun x9 => if x9 = 0 then (some (-1)) else (b_bind (F_X3_stateOf x1 v3 M) (fun x11 => some x11)))) else (some (-1)))))
theorem t_X3_tellRuling {l : Launch} {E : bE} {Q : Int → Prop} {v1 : Int} {v2 : Int} {v3 : Int} {M : bM} (h : b_wp (F_X3_tellRuling v1 v2 v3 M) (Q)) : V l E xX3_tellRuling (0, 0) 0 [(0, bR 9), (1, bI v1), (2, bI v2), (3, bI v3)] [] M (b_pIp M Q) := by
  unfold F_X3_tellRuling at h
  refine v_aload_n (f := 0) 0 rfl dX3_tellRuling_0 ?_
  refine v_iload_n (f := 1) 1 rfl dX3_tellRuling_1 ?_
  refine v_cVIp (nA := 1) (As := [bI _]) (ix := 58) (cf_X3_winnerOf (b_wp_b h)) rfl kd_9 rfl rfl wc_X3_winnerOf wm_3_58 wi_X3_winnerOf ws_X3_winnerOf wn_3 ⟨by decide, by decide, by decide⟩ rfl ⟨by decide, by decide⟩ ⟨by decide, by decide⟩ (Nat.le_of_ble_eq_true rfl) dX3_tellRuling_2 (fun x1 h => ?_)
  refine v_istore (i := 4) (ls' := [(4, bI _), (0, bR _), (1, bI _), (2, bI _), (3, bI _)]) (by decide) dX3_tellRuling_5 rfl ?_
  refine v_iload_n (f := 2) 3 rfl dX3_tellRuling_7 ?_
  refine v_case (v := 0) (fun c2 => ?_) (fun c3 => ?_)
  · refine v_tsIn (tgt := 36) (0) c2 (by decide) (by decide) rfl dX3_tellRuling_8 (by decide) ?_
    replace h := b_wp_t c2 h
    refine v_iload (i := 4) 0 rfl dX3_tellRuling_36 ?_
    refine v_ireturn rfl dX3_tellRuling_38 ⟨by decide, by decide⟩ ?_
    exact ⟨_, rfl, rfl, h⟩
  replace h := b_wp_f c3 h
  refine v_case (v := 1) (fun c4 => ?_) (fun c5 => ?_)
  · refine v_tsIn (tgt := 39) (1) c4 (by decide) (by decide) rfl dX3_tellRuling_8 (by decide) ?_
    replace h := b_wp_t c4 h
    obtain ⟨g6, h⟩ := b_wp_g h
    refine v_aload_n (f := 0) 1 rfl dX3_tellRuling_39 ?_
    refine v_getR (kf := 11) (kz := 11) rfl kd_9 rfl ⟨by decide, by decide⟩ rfl wf_3_32 dX3_tellRuling_40 ?_
    refine v_iload_n (f := 1) 2 rfl dX3_tellRuling_43 ?_
    refine v_iaload kd_153 g6 (by decide) dX3_tellRuling_44 ?_
    refine v_ireturn rfl dX3_tellRuling_45 ⟨by decide, by decide⟩ ?_
    exact ⟨_, rfl, rfl, h⟩
  replace h := b_wp_f c5 h
  refine v_case (v := 2) (fun c7 => ?_) (fun c8 => ?_)
  · refine v_tsIn (tgt := 46) (2) c7 (by decide) (by decide) rfl dX3_tellRuling_8 (by decide) ?_
    replace h := b_wp_t c7 h
    refine v_aload_n (f := 0) 1 rfl dX3_tellRuling_46 ?_
    refine v_iload (i := 4) 0 rfl dX3_tellRuling_47 ?_
    refine v_cVIp (nA := 1) (As := [bI _]) (ix := 62) (cf_X3_has (b_wp_b h)) rfl kd_9 rfl rfl wc_X3_has wm_3_62 wi_X3_has ws_X3_has wn_3 ⟨by decide, by decide, by decide⟩ rfl ⟨by decide, by decide⟩ ⟨by decide, by decide⟩ (Nat.le_of_ble_eq_true rfl) dX3_tellRuling_49 (fun x9 h => ?_)
    refine v_if_eq (tgt := 65) dX3_tellRuling_52 (by decide) (fun c10 => ?_) (fun c10 => ?_)
    · replace h := b_wp_t c10 h
      refine v_iconst ⟨by decide, by decide⟩ dX3_tellRuling_65 ?_
      refine v_ireturn rfl dX3_tellRuling_66 ⟨by decide, by decide⟩ ?_
      exact ⟨_, rfl, rfl, h⟩
    · replace h := b_wp_f c10 h
      refine v_aload_n (f := 0) 1 rfl dX3_tellRuling_55 ?_
      refine v_iload (i := 4) 0 rfl dX3_tellRuling_56 ?_
      refine v_iload_n (f := 3) 4 rfl dX3_tellRuling_58 ?_
      refine v_cVIp (nA := 2) (As := [bI _, bI _]) (ix := 70) (cf_X3_stateOf (b_wp_b h)) rfl kd_9 rfl rfl wc_X3_stateOf wm_3_70 wi_X3_stateOf ws_X3_stateOf wn_3 ⟨by decide, by decide, by decide⟩ rfl ⟨by decide, by decide⟩ ⟨by decide, by decide⟩ (Nat.le_of_ble_eq_true rfl) dX3_tellRuling_59 (fun x11 h => ?_)
      refine v_goto (tgt := 66) dX3_tellRuling_62 (by decide) ?_
      refine v_ireturn rfl dX3_tellRuling_66 ⟨by decide, by decide⟩ ?_
      exact ⟨_, rfl, rfl, h⟩
  replace h := b_wp_f c8 h
  refine v_tsOut (tgt := 67) (by omega) dX3_tellRuling_8 (by decide) ?_
  refine v_iconst ⟨by decide, by decide⟩ dX3_tellRuling_67 ?_
  refine v_ireturn rfl dX3_tellRuling_68 ⟨by decide, by decide⟩ ?_
  exact ⟨_, rfl, rfl, h⟩
theorem cf_X3_tellRuling {l : Launch} {E : bE} {M : bM} {v1 : Int} {v2 : Int} {v3 : Int} {Q : Int → Prop} (h : b_wp (F_X3_tellRuling v1 v2 v3 M) Q) : b_C l E xX3_tellRuling yX3_tellRuling [bR 9, bI v1, bI v2, bI v3] M (b_pIp M Q) := b_met (by decide) ⟨rfl, rfl⟩ (Nat.le_of_ble_eq_true rfl) (fun _ _ => t_X3_tellRuling h)
abbrev xX11_ruled : bX := ("BurntHall", prog_1_method_48_code, 3, (Option.some Jvm.ClassFile.FieldType.int), b_rm 5 0 0, 0, "ruled")
abbrev yX11_ruled : MethodName := ⟨"BurntHall", "ruled", "(II)I"⟩
theorem dX11_ruled_0 : decode prog_1_method_48_code 0 = .ok (.aload_n 0, 1) := by decide +kernel
theorem dX11_ruled_1 : decode prog_1_method_48_code 1 = .ok (.getfield 26, 3) := by decide +kernel
theorem dX11_ruled_4 : decode prog_1_method_48_code 4 = .ok (.iload_n 1, 1) := by decide +kernel
theorem dX11_ruled_5 : decode prog_1_method_48_code 5 = .ok (.invokevirtual 146, 3) := by decide +kernel
theorem dX11_ruled_8 : decode prog_1_method_48_code 8 = .ok (.ifCond .eq 30, 3) := by decide +kernel
theorem dX11_ruled_11 : decode prog_1_method_48_code 11 = .ok (.aload_n 0, 1) := by decide +kernel
theorem dX11_ruled_12 : decode prog_1_method_48_code 12 = .ok (.getfield 78, 3) := by decide +kernel
theorem dX11_ruled_15 : decode prog_1_method_48_code 15 = .ok (.iload_n 1, 1) := by decide +kernel
theorem dX11_ruled_16 : decode prog_1_method_48_code 16 = .ok (.invokevirtual 327, 3) := by decide +kernel
theorem dX11_ruled_19 : decode prog_1_method_48_code 19 = .ok (.ifCond .eq 19, 3) := by decide +kernel
theorem dX11_ruled_22 : decode prog_1_method_48_code 22 = .ok (.aload_n 0, 1) := by decide +kernel
theorem dX11_ruled_23 : decode prog_1_method_48_code 23 = .ok (.getfield 78, 3) := by decide +kernel
theorem dX11_ruled_26 : decode prog_1_method_48_code 26 = .ok (.iload_n 1, 1) := by decide +kernel
theorem dX11_ruled_27 : decode prog_1_method_48_code 27 = .ok (.iload_n 2, 1) := by decide +kernel
theorem dX11_ruled_28 : decode prog_1_method_48_code 28 = .ok (.aload_n 0, 1) := by decide +kernel
theorem dX11_ruled_29 : decode prog_1_method_48_code 29 = .ok (.getfield 91, 3) := by decide +kernel
theorem dX11_ruled_32 : decode prog_1_method_48_code 32 = .ok (.invokevirtual 339, 3) := by decide +kernel
theorem dX11_ruled_35 : decode prog_1_method_48_code 35 = .ok (.goto 4, 3) := by decide +kernel
theorem dX11_ruled_38 : decode prog_1_method_48_code 38 = .ok (.iconst (-1), 1) := by decide +kernel
theorem dX11_ruled_39 : decode prog_1_method_48_code 39 = .ok (.ireturn, 1) := by decide +kernel
noncomputable def F_X11_ruled (v1 : Int) (v2 : Int) (M : bM) : Option (Int) :=
  b_bind (F_X5_has v1 M) (fun x1 => if x1 = 0 then (some (-1)) else (b_bind (F_X3_isRuled v1 M) (fun x3 => if x3 = 0 then (some (-1)) else (b_bind (F_X3_tellRuling v1 v2 (M 0 10) M) (fun x5 => some x5)))))
theorem t_X11_ruled {l : Launch} {E : bE} {Q : Int → Prop} {v1 : Int} {v2 : Int} {M : bM} (h : b_wp (F_X11_ruled v1 v2 M) (Q)) : V l E xX11_ruled (0, 0) 0 [(0, bR 0), (1, bI v1), (2, bI v2)] [] M (b_pIp M Q) := by
  unfold F_X11_ruled at h
  refine v_aload_n (f := 0) 0 rfl dX11_ruled_0 ?_
  refine v_getR (kf := 2) (kz := 2) rfl kd_0 rfl ⟨by decide, by decide⟩ rfl wf_11_26 dX11_ruled_1 ?_
  refine v_iload_n (f := 1) 1 rfl dX11_ruled_4 ?_
  refine v_cVIp (nA := 1) (As := [bI _]) (ix := 146) (cf_X5_has (b_wp_b h)) rfl kd_3 rfl rfl wc_X5_has wm_11_146 wi_X5_has ws_X5_has wn_5 ⟨by decide, by decide, by decide⟩ rfl ⟨by decide, by decide⟩ ⟨by decide, by decide⟩ (Nat.le_of_ble_eq_true rfl) dX11_ruled_5 (fun x1 h => ?_)
  refine v_if_eq (tgt := 38) dX11_ruled_8 (by decide) (fun c2 => ?_) (fun c2 => ?_)
  · replace h := b_wp_t c2 h
    refine v_iconst ⟨by decide, by decide⟩ dX11_ruled_38 ?_
    refine v_ireturn rfl dX11_ruled_39 ⟨by decide, by decide⟩ ?_
    exact ⟨_, rfl, rfl, h⟩
  · replace h := b_wp_f c2 h
    refine v_aload_n (f := 0) 0 rfl dX11_ruled_11 ?_
    refine v_getR (kf := 8) (kz := 8) rfl kd_0 rfl ⟨by decide, by decide⟩ rfl wf_11_78 dX11_ruled_12 ?_
    refine v_iload_n (f := 1) 1 rfl dX11_ruled_15 ?_
    refine v_cVIp (nA := 1) (As := [bI _]) (ix := 327) (cf_X3_isRuled (b_wp_b h)) rfl kd_9 rfl rfl wc_X3_isRuled wm_11_327 wi_X3_isRuled ws_X3_isRuled wn_3 ⟨by decide, by decide, by decide⟩ rfl ⟨by decide, by decide⟩ ⟨by decide, by decide⟩ (Nat.le_of_ble_eq_true rfl) dX11_ruled_16 (fun x3 h => ?_)
    refine v_if_eq (tgt := 38) dX11_ruled_19 (by decide) (fun c4 => ?_) (fun c4 => ?_)
    · replace h := b_wp_t c4 h
      refine v_iconst ⟨by decide, by decide⟩ dX11_ruled_38 ?_
      refine v_ireturn rfl dX11_ruled_39 ⟨by decide, by decide⟩ ?_
      exact ⟨_, rfl, rfl, h⟩
    · replace h := b_wp_f c4 h
      refine v_aload_n (f := 0) 0 rfl dX11_ruled_22 ?_
      refine v_getR (kf := 8) (kz := 8) rfl kd_0 rfl ⟨by decide, by decide⟩ rfl wf_11_78 dX11_ruled_23 ?_
      refine v_iload_n (f := 1) 1 rfl dX11_ruled_26 ?_
      refine v_iload_n (f := 2) 2 rfl dX11_ruled_27 ?_
      refine v_aload_n (f := 0) 0 rfl dX11_ruled_28 ?_
      refine v_getI (kf := 10) (kz := 10) rfl kd_0 rfl ⟨by decide, by decide⟩ rfl wf_11_91 dX11_ruled_29 ?_
      refine v_cVIp (nA := 3) (As := [bI _, bI _, bI _]) (ix := 339) (cf_X3_tellRuling (b_wp_b h)) rfl kd_9 rfl rfl wc_X3_tellRuling wm_11_339 wi_X3_tellRuling ws_X3_tellRuling wn_3 ⟨by decide, by decide, by decide⟩ rfl ⟨by decide, by decide⟩ ⟨by decide, by decide⟩ (Nat.le_of_ble_eq_true rfl) dX11_ruled_32 (fun x5 h => ?_)
      refine v_goto (tgt := 39) dX11_ruled_35 (by decide) ?_
      refine v_ireturn rfl dX11_ruled_39 ⟨by decide, by decide⟩ ?_
      exact ⟨_, rfl, rfl, h⟩
theorem cf_X11_ruled {l : Launch} {E : bE} {M : bM} {v1 : Int} {v2 : Int} {Q : Int → Prop} (h : b_wp (F_X11_ruled v1 v2 M) Q) : b_C l E xX11_ruled yX11_ruled [bR 0, bI v1, bI v2] M (b_pIp M Q) := b_met (by decide) ⟨rfl, rfl⟩ (Nat.le_of_ble_eq_true rfl) (fun _ _ => t_X11_ruled h)
abbrev xX3_mustReopen : bX := ("BurntHall$Claims", prog_5_method_16_code, 5, (Option.some Jvm.ClassFile.FieldType.boolean), b_rm 7 0 0, 0, "mustReopen")
abbrev yX3_mustReopen : MethodName := ⟨"BurntHall$Claims", "mustReopen", "(II)Z"⟩
theorem dX3_mustReopen_0 : decode prog_5_method_16_code 0 = .ok (.aload_n 0, 1) := by decide +kernel
theorem dX3_mustReopen_1 : decode prog_5_method_16_code 1 = .ok (.iload_n 1, 1) := by decide +kernel
theorem dX3_mustReopen_2 : decode prog_5_method_16_code 2 = .ok (.invokevirtual 58, 3) := by decide +kernel
theorem dX3_mustReopen_5 : decode prog_5_method_16_code 5 = .ok (.istore_n 3, 1) := by decide +kernel
theorem dX3_mustReopen_6 : decode prog_5_method_16_code 6 = .ok (.iconst 0, 1) := by decide +kernel
theorem dX3_mustReopen_7 : decode prog_5_method_16_code 7 = .ok (.istore 4, 2) := by decide +kernel
theorem dX3_mustReopen_9 : decode prog_5_method_16_code 9 = .ok (.iload 4, 2) := by decide +kernel
theorem dX3_mustReopen_11 : decode prog_5_method_16_code 11 = .ok (.aload_n 0, 1) := by decide +kernel
theorem dX3_mustReopen_12 : decode prog_5_method_16_code 12 = .ok (.getfield 50, 3) := by decide +kernel
theorem dX3_mustReopen_15 : decode prog_5_method_16_code 15 = .ok (.if_icmp .ge 43, 3) := by decide +kernel
theorem dX3_mustReopen_18 : decode prog_5_method_16_code 18 = .ok (.aload_n 0, 1) := by decide +kernel
theorem dX3_mustReopen_19 : decode prog_5_method_16_code 19 = .ok (.getfield 15, 3) := by decide +kernel
theorem dX3_mustReopen_22 : decode prog_5_method_16_code 22 = .ok (.iload 4, 2) := by decide +kernel
theorem dX3_mustReopen_24 : decode prog_5_method_16_code 24 = .ok (.iaload, 1) := by decide +kernel
theorem dX3_mustReopen_25 : decode prog_5_method_16_code 25 = .ok (.iload_n 1, 1) := by decide +kernel
theorem dX3_mustReopen_26 : decode prog_5_method_16_code 26 = .ok (.if_icmp .ne 26, 3) := by decide +kernel
theorem dX3_mustReopen_29 : decode prog_5_method_16_code 29 = .ok (.aload_n 0, 1) := by decide +kernel
theorem dX3_mustReopen_30 : decode prog_5_method_16_code 30 = .ok (.iload 4, 2) := by decide +kernel
theorem dX3_mustReopen_32 : decode prog_5_method_16_code 32 = .ok (.iload_n 2, 1) := by decide +kernel
theorem dX3_mustReopen_33 : decode prog_5_method_16_code 33 = .ok (.invokevirtual 105, 3) := by decide +kernel
theorem dX3_mustReopen_36 : decode prog_5_method_16_code 36 = .ok (.iload 4, 2) := by decide +kernel
theorem dX3_mustReopen_38 : decode prog_5_method_16_code 38 = .ok (.iload_n 3, 1) := by decide +kernel
theorem dX3_mustReopen_39 : decode prog_5_method_16_code 39 = .ok (.if_icmp .ne 7, 3) := by decide +kernel
theorem dX3_mustReopen_42 : decode prog_5_method_16_code 42 = .ok (.iconst 3, 1) := by decide +kernel
theorem dX3_mustReopen_43 : decode prog_5_method_16_code 43 = .ok (.goto 4, 3) := by decide +kernel
theorem dX3_mustReopen_46 : decode prog_5_method_16_code 46 = .ok (.iconst 1, 1) := by decide +kernel
theorem dX3_mustReopen_47 : decode prog_5_method_16_code 47 = .ok (.if_icmp .ne 5, 3) := by decide +kernel
theorem dX3_mustReopen_50 : decode prog_5_method_16_code 50 = .ok (.iconst 1, 1) := by decide +kernel
theorem dX3_mustReopen_51 : decode prog_5_method_16_code 51 = .ok (.ireturn, 1) := by decide +kernel
theorem dX3_mustReopen_52 : decode prog_5_method_16_code 52 = .ok (.iinc 4 1, 3) := by decide +kernel
theorem dX3_mustReopen_55 : decode prog_5_method_16_code 55 = .ok (.goto (-46), 3) := by decide +kernel
theorem dX3_mustReopen_58 : decode prog_5_method_16_code 58 = .ok (.iconst 0, 1) := by decide +kernel
theorem dX3_mustReopen_59 : decode prog_5_method_16_code 59 = .ok (.ireturn, 1) := by decide +kernel
abbrev A_X3_mustReopen_9 (l : Launch) (E : bE) (Q : (Int × bM) → Prop) (v1 : Int) (v2 : Int) (v3 : Int) : (Int × bM) → Prop := (fun t : Int × bM => V l E xX3_mustReopen (0, 0) 9 [(0, bR 9), (1, bI v1), (2, bI v2), (3, bI v3), (4, bI (t.1))] [] t.2 (b_pI Q))
abbrev X_X3_mustReopen_9 (l : Launch) (E : bE) (Q : (Int × bM) → Prop) (v1 : Int) (v2 : Int) (v3 : Int) : ((bM) ⊕ (Int × bM)) → Prop := (Sum.elim (fun t : bM => V l E xX3_mustReopen (0, 0) 58 [] [] t (b_pI Q)) Q)
noncomputable def F_X3_mustReopen_b47 (v1 : Int) (v2 : Int) (v3 : Int) (v4 : Int) (u0 : Int) (u1 : Int) (M : bM) : Option ((Int × bM) ⊕ ((bM) ⊕ (Int × bM))) :=
  if u0 = u1 then (some (.inr (.inr (1, M)))) else (b_g (b_i32 (v4 + 1)) (some (.inl ((v4 + 1), M))))
theorem t_X3_mustReopen_b47 {l : Launch} {E : bE} {Q : (Int × bM) → Prop} {v1 : Int} {v2 : Int} {v3 : Int} {v4 : Int} {u0 : Int} {u1 : Int} {M : bM} (h : b_wp (F_X3_mustReopen_b47 v1 v2 v3 v4 u0 u1 M) (Sum.elim (A_X3_mustReopen_9 l E Q v1 v2 v3) (X_X3_mustReopen_9 l E Q v1 v2 v3))) : V l E xX3_mustReopen (0, 0) 47 [(0, bR 9), (1, bI v1), (2, bI v2), (3, bI v3), (4, bI v4)] [bI u1, bI u0] M (b_pI Q) := by
  unfold F_X3_mustReopen_b47 at h
  refine v_icmp_ne (tgt := 52) dX3_mustReopen_47 (by decide) (fun c9 => ?_) (fun c9 => ?_)
  · replace h := b_wp_f c9 h
    obtain ⟨g10, h⟩ := b_wp_g h
    refine v_iincN (ls' := [(4, bI _), (0, bR _), (1, bI _), (2, bI _), (3, bI _)]) 4 rfl (by decide) g10 dX3_mustReopen_52 rfl ?_
    refine v_goto (tgt := 9) dX3_mustReopen_55 (by decide) ?_
    refine v_sub (ls2 := [(0, bR _), (1, bI _), (2, bI _), (3, bI _), (4, bI _)]) [1, 2, 3, 4, 0] rfl ?_
    exact h
  · replace h := b_wp_t c9 h
    refine v_iconst ⟨by decide, by decide⟩ dX3_mustReopen_50 ?_
    refine v_zreturn rfl (Or.inr rfl) dX3_mustReopen_51 ⟨by decide, by decide⟩ ?_
    exact ⟨_, rfl, h⟩
noncomputable def F_X3_mustReopen_s9 (v1 : Int) (v2 : Int) (v3 : Int) (v4 : Int) (M : bM) : Option ((Int × bM) ⊕ ((bM) ⊕ (Int × bM))) :=
  if (M 9 0) ≤ v4 then (some (.inr (.inl (M)))) else (b_g (0 ≤ v4 ∧ v4 < 30) (if (M 148 v4) = v1 then (b_bind (F_X3_appraise v4 v2 M) (fun t => b_two t (fun x6 M7 => if v4 = v3 then (F_X3_mustReopen_b47 v1 v2 v3 v4 x6 3 M7) else (F_X3_mustReopen_b47 v1 v2 v3 v4 x6 1 M7)))) else (b_g (b_i32 (v4 + 1)) (some (.inl ((v4 + 1), M))))))
theorem t_X3_mustReopen_s9 {l : Launch} {E : bE} {Q : (Int × bM) → Prop} {v1 : Int} {v2 : Int} {v3 : Int} {v4 : Int} {M : bM} (h : b_wp (F_X3_mustReopen_s9 v1 v2 v3 v4 M) (Sum.elim (A_X3_mustReopen_9 l E Q v1 v2 v3) (X_X3_mustReopen_9 l E Q v1 v2 v3))) : V l E xX3_mustReopen (0, 0) 9 [(0, bR 9), (1, bI v1), (2, bI v2), (3, bI v3), (4, bI v4)] [] M (b_pI Q) := by
  unfold F_X3_mustReopen_s9 at h
  refine v_iload (i := 4) 4 rfl dX3_mustReopen_9 ?_
  refine v_aload_n (f := 0) 0 rfl dX3_mustReopen_11 ?_
  refine v_getI (kf := 0) (kz := 0) rfl kd_9 rfl ⟨by decide, by decide⟩ rfl wf_3_50 dX3_mustReopen_12 ?_
  refine v_icmp_ge (tgt := 58) dX3_mustReopen_15 (by decide) (fun c2 => ?_) (fun c2 => ?_)
  · replace h := b_wp_t c2 h
    refine v_sub (ls2 := []) [] rfl ?_
    exact h
  · replace h := b_wp_f c2 h
    obtain ⟨g3, h⟩ := b_wp_g h
    refine v_aload_n (f := 0) 0 rfl dX3_mustReopen_18 ?_
    refine v_getR (kf := 6) (kz := 6) rfl kd_9 rfl ⟨by decide, by decide⟩ rfl wf_3_15 dX3_mustReopen_19 ?_
    refine v_iload (i := 4) 4 rfl dX3_mustReopen_22 ?_
    refine v_iaload kd_148 g3 (by decide) dX3_mustReopen_24 ?_
    refine v_iload_n (f := 1) 1 rfl dX3_mustReopen_25 ?_
    refine v_icmp_ne (tgt := 52) dX3_mustReopen_26 (by decide) (fun c4 => ?_) (fun c4 => ?_)
    · replace h := b_wp_f c4 h
      obtain ⟨g5, h⟩ := b_wp_g h
      refine v_iincN (ls' := [(4, bI _), (0, bR _), (1, bI _), (2, bI _), (3, bI _)]) 4 rfl (by decide) g5 dX3_mustReopen_52 rfl ?_
      refine v_goto (tgt := 9) dX3_mustReopen_55 (by decide) ?_
      refine v_sub (ls2 := [(0, bR _), (1, bI _), (2, bI _), (3, bI _), (4, bI _)]) [1, 2, 3, 4, 0] rfl ?_
      exact h
    · replace h := b_wp_t c4 h
      refine v_aload_n (f := 0) 0 rfl dX3_mustReopen_29 ?_
      refine v_iload (i := 4) 4 rfl dX3_mustReopen_30 ?_
      refine v_iload_n (f := 2) 2 rfl dX3_mustReopen_32 ?_
      refine v_cVI (nA := 2) (As := [bI _, bI _]) (ix := 105) (cf_X3_appraise (b_wp_b h)) rfl kd_9 rfl rfl wc_X3_appraise wm_3_105 wi_X3_appraise ws_X3_appraise wn_3 ⟨by decide, by decide, by decide⟩ rfl ⟨by decide, by decide⟩ ⟨by decide, by decide⟩ (Nat.le_of_ble_eq_true rfl) dX3_mustReopen_33 (fun x6 M7 h => ?_)
      replace h := b_wp_two h
      refine v_iload (i := 4) 4 rfl dX3_mustReopen_36 ?_
      refine v_iload_n (f := 3) 3 rfl dX3_mustReopen_38 ?_
      refine v_icmp_ne (tgt := 46) dX3_mustReopen_39 (by decide) (fun c8 => ?_) (fun c8 => ?_)
      · replace h := b_wp_f c8 h
        refine v_iconst ⟨by decide, by decide⟩ dX3_mustReopen_46 ?_
        exact t_X3_mustReopen_b47 h
      · replace h := b_wp_t c8 h
        refine v_iconst ⟨by decide, by decide⟩ dX3_mustReopen_42 ?_
        refine v_goto (tgt := 47) dX3_mustReopen_43 (by decide) ?_
        exact t_X3_mustReopen_b47 h
theorem l_X3_mustReopen_9 {l : Launch} {E : bE} {Q : (Int × bM) → Prop} {v1 : Int} {v2 : Int} {v3 : Int} {s : Int × bM} (h : b_wp (b_loop (fun t => F_X3_mustReopen_s9 v1 v2 v3 t.1 t.2) s) (X_X3_mustReopen_9 l E Q v1 v2 v3)) : A_X3_mustReopen_9 l E Q v1 v2 v3 s := b_loop_wp (fun t h => t_X3_mustReopen_s9 h) s h
noncomputable def F_X3_mustReopen_b58 (M : bM) : Option (Int × bM) :=
  some (0, M)
theorem t_X3_mustReopen_b58 {l : Launch} {E : bE} {Q : (Int × bM) → Prop} {M : bM} (h : b_wp (F_X3_mustReopen_b58 M) (Q)) : V l E xX3_mustReopen (0, 0) 58 [] [] M (b_pI Q) := by
  unfold F_X3_mustReopen_b58 at h
  refine v_iconst ⟨by decide, by decide⟩ dX3_mustReopen_58 ?_
  refine v_zreturn rfl (Or.inl rfl) dX3_mustReopen_59 ⟨by decide, by decide⟩ ?_
  exact ⟨_, rfl, h⟩
noncomputable def F_X3_mustReopen (v1 : Int) (v2 : Int) (M : bM) : Option (Int × bM) :=
  b_bind (F_X3_winnerOf v1 M) (fun x1 => b_bind (b_loop (fun t => F_X3_mustReopen_s9 v1 v2 x1 t.1 t.2) (0, M)) (Sum.elim (fun t => F_X3_mustReopen_b58 t) some))
theorem t_X3_mustReopen {l : Launch} {E : bE} {Q : (Int × bM) → Prop} {v1 : Int} {v2 : Int} {M : bM} (h : b_wp (F_X3_mustReopen v1 v2 M) (Q)) : V l E xX3_mustReopen (0, 0) 0 [(0, bR 9), (1, bI v1), (2, bI v2)] [] M (b_pI Q) := by
  unfold F_X3_mustReopen at h
  refine v_aload_n (f := 0) 0 rfl dX3_mustReopen_0 ?_
  refine v_iload_n (f := 1) 1 rfl dX3_mustReopen_1 ?_
  refine v_cVIp (nA := 1) (As := [bI _]) (ix := 58) (cf_X3_winnerOf (b_wp_b h)) rfl kd_9 rfl rfl wc_X3_winnerOf wm_3_58 wi_X3_winnerOf ws_X3_winnerOf wn_3 ⟨by decide, by decide, by decide⟩ rfl ⟨by decide, by decide⟩ ⟨by decide, by decide⟩ (Nat.le_of_ble_eq_true rfl) dX3_mustReopen_2 (fun x1 h => ?_)
  refine v_istore_n (g := 3) (i := 3) (ls' := [(3, bI _), (0, bR _), (1, bI _), (2, bI _)]) rfl (by decide) dX3_mustReopen_5 rfl ?_
  refine v_iconst ⟨by decide, by decide⟩ dX3_mustReopen_6 ?_
  refine v_istore (i := 4) (ls' := [(4, bI _), (3, bI _), (0, bR _), (1, bI _), (2, bI _)]) (by decide) dX3_mustReopen_7 rfl ?_
  refine v_sub (ls2 := [(0, bR _), (1, bI _), (2, bI _), (3, bI _), (4, bI _)]) [2, 3, 4, 1, 0] rfl ?_
  refine l_X3_mustReopen_9 (b_wp_m (fun t h => ?_) (b_wp_b h))
  cases t with
  | inr o => exact h
  | inl t =>
    show V l E xX3_mustReopen (0, 0) 58 [] [] _ (b_pI Q)
    replace h := b_wp_inl h
    exact t_X3_mustReopen_b58 h
theorem cf_X3_mustReopen {l : Launch} {E : bE} {M : bM} {v1 : Int} {v2 : Int} {Q : (Int × bM) → Prop} (h : b_wp (F_X3_mustReopen v1 v2 M) Q) : b_C l E xX3_mustReopen yX3_mustReopen [bR 9, bI v1, bI v2] M (b_pI Q) := b_met (by decide) ⟨rfl, rfl⟩ (Nat.le_of_ble_eq_true rfl) (fun _ _ => t_X3_mustReopen h)
abbrev xX3_reopen : bX := ("BurntHall$Claims", prog_5_method_15_code, 6, (Option.some Jvm.ClassFile.FieldType.int), b_rm 3 0 0, 0, "reopen")
abbrev yX3_reopen : MethodName := ⟨"BurntHall$Claims", "reopen", "(II)I"⟩
theorem dX3_reopen_0 : decode prog_5_method_15_code 0 = .ok (.aload_n 0, 1) := by decide +kernel
theorem dX3_reopen_1 : decode prog_5_method_15_code 1 = .ok (.iload_n 1, 1) := by decide +kernel
theorem dX3_reopen_2 : decode prog_5_method_15_code 2 = .ok (.invokevirtual 58, 3) := by decide +kernel
theorem dX3_reopen_5 : decode prog_5_method_15_code 5 = .ok (.istore_n 3, 1) := by decide +kernel
theorem dX3_reopen_6 : decode prog_5_method_15_code 6 = .ok (.aload_n 0, 1) := by decide +kernel
theorem dX3_reopen_7 : decode prog_5_method_15_code 7 = .ok (.iload_n 3, 1) := by decide +kernel
theorem dX3_reopen_8 : decode prog_5_method_15_code 8 = .ok (.invokevirtual 62, 3) := by decide +kernel
theorem dX3_reopen_11 : decode prog_5_method_15_code 11 = .ok (.ifCond .ne 5, 3) := by decide +kernel
theorem dX3_reopen_14 : decode prog_5_method_15_code 14 = .ok (.iconst 0, 1) := by decide +kernel
theorem dX3_reopen_15 : decode prog_5_method_15_code 15 = .ok (.ireturn, 1) := by decide +kernel
theorem dX3_reopen_16 : decode prog_5_method_15_code 16 = .ok (.aload_n 0, 1) := by decide +kernel
theorem dX3_reopen_17 : decode prog_5_method_15_code 17 = .ok (.getfield 54, 3) := by decide +kernel
theorem dX3_reopen_20 : decode prog_5_method_15_code 20 = .ok (.aload_n 0, 1) := by decide +kernel
theorem dX3_reopen_21 : decode prog_5_method_15_code 21 = .ok (.getfield 38, 3) := by decide +kernel
theorem dX3_reopen_24 : decode prog_5_method_15_code 24 = .ok (.iload_n 2, 1) := by decide +kernel
theorem dX3_reopen_25 : decode prog_5_method_15_code 25 = .ok (.invokevirtual 74, 3) := by decide +kernel
theorem dX3_reopen_28 : decode prog_5_method_15_code 28 = .ok (.bipush 9, 2) := by decide +kernel
theorem dX3_reopen_30 : decode prog_5_method_15_code 30 = .ok (.invokevirtual 96, 3) := by decide +kernel
theorem dX3_reopen_33 : decode prog_5_method_15_code 33 = .ok (.invokestatic 112, 3) := by decide +kernel
theorem dX3_reopen_36 : decode prog_5_method_15_code 36 = .ok (.istore 4, 2) := by decide +kernel
theorem dX3_reopen_38 : decode prog_5_method_15_code 38 = .ok (.aload_n 0, 1) := by decide +kernel
theorem dX3_reopen_39 : decode prog_5_method_15_code 39 = .ok (.dup, 1) := by decide +kernel
theorem dX3_reopen_40 : decode prog_5_method_15_code 40 = .ok (.getfield 54, 3) := by decide +kernel
theorem dX3_reopen_43 : decode prog_5_method_15_code 43 = .ok (.iload 4, 2) := by decide +kernel
theorem dX3_reopen_45 : decode prog_5_method_15_code 45 = .ok (.isub, 1) := by decide +kernel
theorem dX3_reopen_46 : decode prog_5_method_15_code 46 = .ok (.putfield 54, 3) := by decide +kernel
theorem dX3_reopen_49 : decode prog_5_method_15_code 49 = .ok (.aload_n 0, 1) := by decide +kernel
theorem dX3_reopen_50 : decode prog_5_method_15_code 50 = .ok (.getfield 24, 3) := by decide +kernel
theorem dX3_reopen_53 : decode prog_5_method_15_code 53 = .ok (.iload_n 3, 1) := by decide +kernel
theorem dX3_reopen_54 : decode prog_5_method_15_code 54 = .ok (.dup2, 1) := by decide +kernel
theorem dX3_reopen_55 : decode prog_5_method_15_code 55 = .ok (.iaload, 1) := by decide +kernel
theorem dX3_reopen_56 : decode prog_5_method_15_code 56 = .ok (.iload 4, 2) := by decide +kernel
theorem dX3_reopen_58 : decode prog_5_method_15_code 58 = .ok (.iadd, 1) := by decide +kernel
theorem dX3_reopen_59 : decode prog_5_method_15_code 59 = .ok (.iastore, 1) := by decide +kernel
theorem dX3_reopen_60 : decode prog_5_method_15_code 60 = .ok (.aload_n 0, 1) := by decide +kernel
theorem dX3_reopen_61 : decode prog_5_method_15_code 61 = .ok (.getfield 29, 3) := by decide +kernel
theorem dX3_reopen_64 : decode prog_5_method_15_code 64 = .ok (.iload_n 1, 1) := by decide +kernel
theorem dX3_reopen_65 : decode prog_5_method_15_code 65 = .ok (.iconst 0, 1) := by decide +kernel
theorem dX3_reopen_66 : decode prog_5_method_15_code 66 = .ok (.iastore, 1) := by decide +kernel
theorem dX3_reopen_67 : decode prog_5_method_15_code 67 = .ok (.iconst 0, 1) := by decide +kernel
theorem dX3_reopen_68 : decode prog_5_method_15_code 68 = .ok (.istore 5, 2) := by decide +kernel
theorem dX3_reopen_70 : decode prog_5_method_15_code 70 = .ok (.iload 5, 2) := by decide +kernel
theorem dX3_reopen_72 : decode prog_5_method_15_code 72 = .ok (.aload_n 0, 1) := by decide +kernel
theorem dX3_reopen_73 : decode prog_5_method_15_code 73 = .ok (.getfield 50, 3) := by decide +kernel
theorem dX3_reopen_76 : decode prog_5_method_15_code 76 = .ok (.if_icmp .ge 28, 3) := by decide +kernel
theorem dX3_reopen_79 : decode prog_5_method_15_code 79 = .ok (.aload_n 0, 1) := by decide +kernel
theorem dX3_reopen_80 : decode prog_5_method_15_code 80 = .ok (.getfield 15, 3) := by decide +kernel
theorem dX3_reopen_83 : decode prog_5_method_15_code 83 = .ok (.iload 5, 2) := by decide +kernel
theorem dX3_reopen_85 : decode prog_5_method_15_code 85 = .ok (.iaload, 1) := by decide +kernel
theorem dX3_reopen_86 : decode prog_5_method_15_code 86 = .ok (.iload_n 1, 1) := by decide +kernel
theorem dX3_reopen_87 : decode prog_5_method_15_code 87 = .ok (.if_icmp .ne 11, 3) := by decide +kernel
theorem dX3_reopen_90 : decode prog_5_method_15_code 90 = .ok (.aload_n 0, 1) := by decide +kernel
theorem dX3_reopen_91 : decode prog_5_method_15_code 91 = .ok (.getfield 21, 3) := by decide +kernel
theorem dX3_reopen_94 : decode prog_5_method_15_code 94 = .ok (.iload 5, 2) := by decide +kernel
theorem dX3_reopen_96 : decode prog_5_method_15_code 96 = .ok (.iconst 0, 1) := by decide +kernel
theorem dX3_reopen_97 : decode prog_5_method_15_code 97 = .ok (.iastore, 1) := by decide +kernel
theorem dX3_reopen_98 : decode prog_5_method_15_code 98 = .ok (.iinc 5 1, 3) := by decide +kernel
theorem dX3_reopen_101 : decode prog_5_method_15_code 101 = .ok (.goto (-31), 3) := by decide +kernel
theorem dX3_reopen_104 : decode prog_5_method_15_code 104 = .ok (.iconst 1, 1) := by decide +kernel
theorem dX3_reopen_105 : decode prog_5_method_15_code 105 = .ok (.ireturn, 1) := by decide +kernel
abbrev A_X3_reopen_70 (l : Launch) (E : bE) (Q : (Int × bM) → Prop) (v1 : Int) : (Int × bM) → Prop := (fun t : Int × bM => V l E xX3_reopen (0, 0) 70 [(0, bR 9), (1, bI v1), (5, bI (t.1))] [] t.2 (b_pI Q))
abbrev X_X3_reopen_70 (l : Launch) (E : bE) (Q : (Int × bM) → Prop) (v1 : Int) : (bM) → Prop := (fun t : bM => V l E xX3_reopen (0, 0) 104 [] [] t (b_pI Q))
noncomputable def F_X3_reopen_s70 (v1 : Int) (v5 : Int) (M : bM) : Option ((Int × bM) ⊕ (bM)) :=
  if (M 9 0) ≤ v5 then (some (.inr (M))) else (b_g (0 ≤ v5 ∧ v5 < 30) (if (M 148 v5) = v1 then (b_g (0 ≤ v5 ∧ v5 < 30) (b_let (b_up M 150 v5 0) (fun M20 => b_g (b_i32 (v5 + 1)) (some (.inl ((v5 + 1), M20)))))) else (b_g (b_i32 (v5 + 1)) (some (.inl ((v5 + 1), M))))))
theorem t_X3_reopen_s70 {l : Launch} {E : bE} {Q : (Int × bM) → Prop} {v1 : Int} {v5 : Int} {M : bM} (h : b_wp (F_X3_reopen_s70 v1 v5 M) (Sum.elim (A_X3_reopen_70 l E Q v1) (X_X3_reopen_70 l E Q v1))) : V l E xX3_reopen (0, 0) 70 [(0, bR 9), (1, bI v1), (5, bI v5)] [] M (b_pI Q) := by
  unfold F_X3_reopen_s70 at h
  refine v_iload (i := 5) 2 rfl dX3_reopen_70 ?_
  refine v_aload_n (f := 0) 0 rfl dX3_reopen_72 ?_
  refine v_getI (kf := 0) (kz := 0) rfl kd_9 rfl ⟨by decide, by decide⟩ rfl wf_3_50 dX3_reopen_73 ?_
  refine v_icmp_ge (tgt := 104) dX3_reopen_76 (by decide) (fun c15 => ?_) (fun c15 => ?_)
  · replace h := b_wp_t c15 h
    refine v_sub (ls2 := []) [] rfl ?_
    exact h
  · replace h := b_wp_f c15 h
    obtain ⟨g16, h⟩ := b_wp_g h
    refine v_aload_n (f := 0) 0 rfl dX3_reopen_79 ?_
    refine v_getR (kf := 6) (kz := 6) rfl kd_9 rfl ⟨by decide, by decide⟩ rfl wf_3_15 dX3_reopen_80 ?_
    refine v_iload (i := 5) 2 rfl dX3_reopen_83 ?_
    refine v_iaload kd_148 g16 (by decide) dX3_reopen_85 ?_
    refine v_iload_n (f := 1) 1 rfl dX3_reopen_86 ?_
    refine v_icmp_ne (tgt := 98) dX3_reopen_87 (by decide) (fun c17 => ?_) (fun c17 => ?_)
    · replace h := b_wp_f c17 h
      obtain ⟨g18, h⟩ := b_wp_g h
      refine v_iincN (ls' := [(5, bI _), (0, bR _), (1, bI _)]) 2 rfl (by decide) g18 dX3_reopen_98 rfl ?_
      refine v_goto (tgt := 70) dX3_reopen_101 (by decide) ?_
      refine v_sub (ls2 := [(0, bR _), (1, bI _), (5, bI _)]) [1, 2, 0] rfl ?_
      exact h
    · replace h := b_wp_t c17 h
      obtain ⟨g19, h⟩ := b_wp_g h
      refine v_aload_n (f := 0) 0 rfl dX3_reopen_90 ?_
      refine v_getR (kf := 8) (kz := 8) rfl kd_9 rfl ⟨by decide, by decide⟩ rfl wf_3_21 dX3_reopen_91 ?_
      refine v_iload (i := 5) 2 rfl dX3_reopen_94 ?_
      refine v_iconst ⟨by decide, by decide⟩ dX3_reopen_96 ?_
      refine v_iastore kd_150 g19 (by decide) dX3_reopen_97 ?_
      replace h := b_wp_l h
      obtain ⟨g21, h⟩ := b_wp_g h
      refine v_iincN (ls' := [(5, bI _), (0, bR _), (1, bI _)]) 2 rfl (by decide) g21 dX3_reopen_98 rfl ?_
      refine v_goto (tgt := 70) dX3_reopen_101 (by decide) ?_
      refine v_sub (ls2 := [(0, bR _), (1, bI _), (5, bI _)]) [1, 2, 0] rfl ?_
      exact h
theorem l_X3_reopen_70 {l : Launch} {E : bE} {Q : (Int × bM) → Prop} {v1 : Int} {s : Int × bM} (h : b_wp (b_loop (fun t => F_X3_reopen_s70 v1 t.1 t.2) s) (X_X3_reopen_70 l E Q v1)) : A_X3_reopen_70 l E Q v1 s := b_loop_wp (fun t h => t_X3_reopen_s70 h) s h
noncomputable def F_X3_reopen_b104 (M : bM) : Option (Int × bM) :=
  some (1, M)
theorem t_X3_reopen_b104 {l : Launch} {E : bE} {Q : (Int × bM) → Prop} {M : bM} (h : b_wp (F_X3_reopen_b104 M) (Q)) : V l E xX3_reopen (0, 0) 104 [] [] M (b_pI Q) := by
  unfold F_X3_reopen_b104 at h
  refine v_iconst ⟨by decide, by decide⟩ dX3_reopen_104 ?_
  refine v_ireturn rfl dX3_reopen_105 ⟨by decide, by decide⟩ ?_
  exact ⟨_, rfl, h⟩
noncomputable def F_X3_reopen (v1 : Int) (v2 : Int) (M : bM) : Option (Int × bM) :=
  b_bind (F_X3_winnerOf v1 M) (fun x1 => b_bind (F_X3_has x1 M) (fun x2 => if x2 = 0 then (some (0, M)) else (b_bind (F_X1_inForce v2 M) (fun x4 => b_g (12 ≤ x4 ∧ x4 < 22) (b_bind (F_X0_told_a x4 9 M) (fun x6 => b_let ((min (M 9 1) x6)) (fun y7 => b_g (b_i32 ((M 9 1) - y7)) (b_let (b_up M 9 1 ((M 9 1) - y7)) (fun M9 => b_g ((0 ≤ x1 ∧ x1 < 30) ∧ (b_i32 ((M9 151 x1) + y7))) (b_let (b_up M9 151 x1 ((M9 151 x1) + y7)) (fun M12 => b_g (0 ≤ v1 ∧ v1 < 60) (b_let (b_up M12 152 v1 0) (fun M14 => b_bind (b_loop (fun t => F_X3_reopen_s70 v1 t.1 t.2) (0, M14)) (fun t => F_X3_reopen_b104 t))))))))))))))
theorem t_X3_reopen {l : Launch} {E : bE} {Q : (Int × bM) → Prop} {v1 : Int} {v2 : Int} {M : bM} (h : b_wp (F_X3_reopen v1 v2 M) (Q)) : V l E xX3_reopen (0, 0) 0 [(0, bR 9), (1, bI v1), (2, bI v2)] [] M (b_pI Q) := by
  unfold F_X3_reopen at h
  refine v_aload_n (f := 0) 0 rfl dX3_reopen_0 ?_
  refine v_iload_n (f := 1) 1 rfl dX3_reopen_1 ?_
  refine v_cVIp (nA := 1) (As := [bI _]) (ix := 58) (cf_X3_winnerOf (b_wp_b h)) rfl kd_9 rfl rfl wc_X3_winnerOf wm_3_58 wi_X3_winnerOf ws_X3_winnerOf wn_3 ⟨by decide, by decide, by decide⟩ rfl ⟨by decide, by decide⟩ ⟨by decide, by decide⟩ (Nat.le_of_ble_eq_true rfl) dX3_reopen_2 (fun x1 h => ?_)
  refine v_istore_n (g := 3) (i := 3) (ls' := [(3, bI _), (0, bR _), (1, bI _), (2, bI _)]) rfl (by decide) dX3_reopen_5 rfl ?_
  refine v_aload_n (f := 0) 1 rfl dX3_reopen_6 ?_
  refine v_iload_n (f := 3) 0 rfl dX3_reopen_7 ?_
  refine v_cVIp (nA := 1) (As := [bI _]) (ix := 62) (cf_X3_has (b_wp_b h)) rfl kd_9 rfl rfl wc_X3_has wm_3_62 wi_X3_has ws_X3_has wn_3 ⟨by decide, by decide, by decide⟩ rfl ⟨by decide, by decide⟩ ⟨by decide, by decide⟩ (Nat.le_of_ble_eq_true rfl) dX3_reopen_8 (fun x2 h => ?_)
  refine v_if_ne (tgt := 16) dX3_reopen_11 (by decide) (fun c3 => ?_) (fun c3 => ?_)
  · replace h := b_wp_f c3 h
    refine v_aload_n (f := 0) 1 rfl dX3_reopen_16 ?_
    refine v_getI (kf := 1) (kz := 1) rfl kd_9 rfl ⟨by decide, by decide⟩ rfl wf_3_54 dX3_reopen_17 ?_
    refine v_aload_n (f := 0) 1 rfl dX3_reopen_20 ?_
    refine v_getR (kf := 2) (kz := 2) rfl kd_9 rfl ⟨by decide, by decide⟩ rfl wf_3_38 dX3_reopen_21 ?_
    refine v_iload_n (f := 2) 3 rfl dX3_reopen_24 ?_
    refine v_cVAp (nA := 1) (As := [bI _]) (ix := 74) (cf_X1_inForce (b_wp_b h)) rfl kd_4 rfl rfl wc_X1_inForce wm_3_74 wi_X1_inForce ws_X1_inForce wn_1 ⟨by decide, by decide, by decide⟩ rfl ⟨by decide, by decide⟩ ⟨by decide, by decide⟩ (Nat.le_of_ble_eq_true rfl) dX3_reopen_25 (fun x4 h => ?_)
    obtain ⟨g5, h⟩ := b_wp_g h
    refine v_bipush ⟨by decide, by decide⟩ (by decide) dX3_reopen_28 ?_
    refine v_cVIp (nA := 1) (As := [bI _]) (ix := 96) (cf_X0_told_a (b_wp_b h)) rfl (kd_act0 g5) rfl rfl wc_X0_told wm_3_96 wi_X0_told ws_X0_told wn_0 ⟨by decide, by decide, by decide⟩ rfl ⟨by decide, by decide⟩ ⟨by decide, by decide⟩ (Nat.le_of_ble_eq_true rfl) dX3_reopen_30 (fun x6 h => ?_)
    refine v_mmin wm_3_112 wma_min wmi wmc_min ⟨by decide, by decide⟩ ⟨by decide, by decide⟩ (Nat.le_of_ble_eq_true rfl) dX3_reopen_33 ?_
    replace h := b_wp_l h
    obtain ⟨g8, h⟩ := b_wp_g h
    refine v_istore (i := 4) (ls' := [(4, bI _), (3, bI _), (0, bR _), (1, bI _), (2, bI _)]) (by decide) dX3_reopen_36 rfl ?_
    refine v_aload_n (f := 0) 2 rfl dX3_reopen_38 ?_
    refine v_dup rfl dX3_reopen_39 ?_
    refine v_getI (kf := 1) (kz := 1) rfl kd_9 rfl ⟨by decide, by decide⟩ rfl wf_3_54 dX3_reopen_40 ?_
    refine v_iload (i := 4) 0 rfl dX3_reopen_43 ?_
    refine v_isubN g8 dX3_reopen_45 ?_
    refine v_putI (kf := 1) (kz := 1) rfl kd_9 rfl ⟨by decide, by decide⟩ rfl wf_3_54 rfl rfl dX3_reopen_46 ?_
    replace h := b_wp_l h
    obtain ⟨⟨g10, g11⟩, h⟩ := b_wp_g h
    refine v_aload_n (f := 0) 2 rfl dX3_reopen_49 ?_
    refine v_getR (kf := 9) (kz := 9) rfl kd_9 rfl ⟨by decide, by decide⟩ rfl wf_3_24 dX3_reopen_50 ?_
    refine v_iload_n (f := 3) 1 rfl dX3_reopen_53 ?_
    refine v_dup2 rfl rfl dX3_reopen_54 ?_
    refine v_iaload kd_151 g10 (by decide) dX3_reopen_55 ?_
    refine v_iload (i := 4) 0 rfl dX3_reopen_56 ?_
    refine v_iaddN g11 dX3_reopen_58 ?_
    refine v_iastore kd_151 g10 (by decide) dX3_reopen_59 ?_
    replace h := b_wp_l h
    obtain ⟨g13, h⟩ := b_wp_g h
    refine v_aload_n (f := 0) 2 rfl dX3_reopen_60 ?_
    refine v_getR (kf := 10) (kz := 10) rfl kd_9 rfl ⟨by decide, by decide⟩ rfl wf_3_29 dX3_reopen_61 ?_
    refine v_iload_n (f := 1) 3 rfl dX3_reopen_64 ?_
    refine v_iconst ⟨by decide, by decide⟩ dX3_reopen_65 ?_
    refine v_iastore kd_152 g13 (by decide) dX3_reopen_66 ?_
    replace h := b_wp_l h
    refine v_iconst ⟨by decide, by decide⟩ dX3_reopen_67 ?_
    refine v_istore (i := 5) (ls' := [(5, bI _), (4, bI _), (3, bI _), (0, bR _), (1, bI _), (2, bI _)]) (by decide) dX3_reopen_68 rfl ?_
    refine v_sub (ls2 := [(0, bR _), (1, bI _), (5, bI _)]) [3, 4, 0] rfl ?_
    refine l_X3_reopen_70 (b_wp_m (fun t h => ?_) (b_wp_b h))
    show V l E xX3_reopen (0, 0) 104 [] [] _ (b_pI Q)
    exact t_X3_reopen_b104 h
  · replace h := b_wp_t c3 h
    refine v_iconst ⟨by decide, by decide⟩ dX3_reopen_14 ?_
    refine v_ireturn rfl dX3_reopen_15 ⟨by decide, by decide⟩ ?_
    exact ⟨_, rfl, h⟩
theorem cf_X3_reopen {l : Launch} {E : bE} {M : bM} {v1 : Int} {v2 : Int} {Q : (Int × bM) → Prop} (h : b_wp (F_X3_reopen v1 v2 M) Q) : b_C l E xX3_reopen yX3_reopen [bR 9, bI v1, bI v2] M (b_pI Q) := b_met (by decide) ⟨rfl, rfl⟩ (Nat.le_of_ble_eq_true rfl) (fun _ _ => t_X3_reopen h)
abbrev xX11_open : bX := ("BurntHall", prog_1_method_49_code, 2, (Option.some Jvm.ClassFile.FieldType.int), b_rm 8 0 0, 0, "open")
abbrev yX11_open : MethodName := ⟨"BurntHall", "open", "(I)I"⟩
theorem dX11_open_0 : decode prog_1_method_49_code 0 = .ok (.aload_n 0, 1) := by decide +kernel
theorem dX11_open_1 : decode prog_1_method_49_code 1 = .ok (.getfield 26, 3) := by decide +kernel
theorem dX11_open_4 : decode prog_1_method_49_code 4 = .ok (.iload_n 1, 1) := by decide +kernel
theorem dX11_open_5 : decode prog_1_method_49_code 5 = .ok (.invokevirtual 146, 3) := by decide +kernel
theorem dX11_open_8 : decode prog_1_method_49_code 8 = .ok (.ifCond .ne 6, 3) := by decide +kernel
theorem dX11_open_11 : decode prog_1_method_49_code 11 = .ok (.bipush (-2), 2) := by decide +kernel
theorem dX11_open_13 : decode prog_1_method_49_code 13 = .ok (.ireturn, 1) := by decide +kernel
theorem dX11_open_14 : decode prog_1_method_49_code 14 = .ok (.aload_n 0, 1) := by decide +kernel
theorem dX11_open_15 : decode prog_1_method_49_code 15 = .ok (.getfield 78, 3) := by decide +kernel
theorem dX11_open_18 : decode prog_1_method_49_code 18 = .ok (.iload_n 1, 1) := by decide +kernel
theorem dX11_open_19 : decode prog_1_method_49_code 19 = .ok (.aload_n 0, 1) := by decide +kernel
theorem dX11_open_20 : decode prog_1_method_49_code 20 = .ok (.getfield 91, 3) := by decide +kernel
theorem dX11_open_23 : decode prog_1_method_49_code 23 = .ok (.invokevirtual 342, 3) := by decide +kernel
theorem dX11_open_26 : decode prog_1_method_49_code 26 = .ok (.ifCond .ne 6, 3) := by decide +kernel
theorem dX11_open_29 : decode prog_1_method_49_code 29 = .ok (.bipush (-4), 2) := by decide +kernel
theorem dX11_open_31 : decode prog_1_method_49_code 31 = .ok (.ireturn, 1) := by decide +kernel
theorem dX11_open_32 : decode prog_1_method_49_code 32 = .ok (.aload_n 0, 1) := by decide +kernel
theorem dX11_open_33 : decode prog_1_method_49_code 33 = .ok (.getfield 51, 3) := by decide +kernel
theorem dX11_open_36 : decode prog_1_method_49_code 36 = .ok (.aload_n 0, 1) := by decide +kernel
theorem dX11_open_37 : decode prog_1_method_49_code 37 = .ok (.getfield 91, 3) := by decide +kernel
theorem dX11_open_40 : decode prog_1_method_49_code 40 = .ok (.invokevirtual 284, 3) := by decide +kernel
theorem dX11_open_43 : decode prog_1_method_49_code 43 = .ok (.aload_n 0, 1) := by decide +kernel
theorem dX11_open_44 : decode prog_1_method_49_code 44 = .ok (.getfield 78, 3) := by decide +kernel
theorem dX11_open_47 : decode prog_1_method_49_code 47 = .ok (.iload_n 1, 1) := by decide +kernel
theorem dX11_open_48 : decode prog_1_method_49_code 48 = .ok (.aload_n 0, 1) := by decide +kernel
theorem dX11_open_49 : decode prog_1_method_49_code 49 = .ok (.getfield 91, 3) := by decide +kernel
theorem dX11_open_52 : decode prog_1_method_49_code 52 = .ok (.invokevirtual 345, 3) := by decide +kernel
theorem dX11_open_55 : decode prog_1_method_49_code 55 = .ok (.ifCond .eq 18, 3) := by decide +kernel
theorem dX11_open_58 : decode prog_1_method_49_code 58 = .ok (.aload_n 0, 1) := by decide +kernel
theorem dX11_open_59 : decode prog_1_method_49_code 59 = .ok (.getfield 78, 3) := by decide +kernel
theorem dX11_open_62 : decode prog_1_method_49_code 62 = .ok (.iload_n 1, 1) := by decide +kernel
theorem dX11_open_63 : decode prog_1_method_49_code 63 = .ok (.aload_n 0, 1) := by decide +kernel
theorem dX11_open_64 : decode prog_1_method_49_code 64 = .ok (.getfield 91, 3) := by decide +kernel
theorem dX11_open_67 : decode prog_1_method_49_code 67 = .ok (.invokevirtual 348, 3) := by decide +kernel
theorem dX11_open_70 : decode prog_1_method_49_code 70 = .ok (.goto 4, 3) := by decide +kernel
theorem dX11_open_73 : decode prog_1_method_49_code 73 = .ok (.iconst 0, 1) := by decide +kernel
theorem dX11_open_74 : decode prog_1_method_49_code 74 = .ok (.ireturn, 1) := by decide +kernel
noncomputable def F_X11_open (v1 : Int) (M : bM) : Option (Int × bM) :=
  b_bind (F_X5_has v1 M) (fun x1 => if x1 = 0 then (some ((-2), M)) else (b_bind (F_X3_isDoubtful v1 (M 0 10) M) (fun x3 => if x3 = 0 then (some ((-4), M)) else (b_bind (F_X4_know (M 0 10) M) (fun M5 => b_bind (F_X3_mustReopen v1 (M5 0 10) M5) (fun t => b_two t (fun x6 M7 => if x6 = 0 then (some (0, M7)) else (b_bind (F_X3_reopen v1 (M7 0 10) M7) (fun t => b_two t (fun x9 M10 => some (x9, M10)))))))))))
theorem t_X11_open {l : Launch} {E : bE} {Q : (Int × bM) → Prop} {v1 : Int} {M : bM} (h : b_wp (F_X11_open v1 M) (Q)) : V l E xX11_open (0, 0) 0 [(0, bR 0), (1, bI v1)] [] M (b_pI Q) := by
  unfold F_X11_open at h
  refine v_aload_n (f := 0) 0 rfl dX11_open_0 ?_
  refine v_getR (kf := 2) (kz := 2) rfl kd_0 rfl ⟨by decide, by decide⟩ rfl wf_11_26 dX11_open_1 ?_
  refine v_iload_n (f := 1) 1 rfl dX11_open_4 ?_
  refine v_cVIp (nA := 1) (As := [bI _]) (ix := 146) (cf_X5_has (b_wp_b h)) rfl kd_3 rfl rfl wc_X5_has wm_11_146 wi_X5_has ws_X5_has wn_5 ⟨by decide, by decide, by decide⟩ rfl ⟨by decide, by decide⟩ ⟨by decide, by decide⟩ (Nat.le_of_ble_eq_true rfl) dX11_open_5 (fun x1 h => ?_)
  refine v_if_ne (tgt := 14) dX11_open_8 (by decide) (fun c2 => ?_) (fun c2 => ?_)
  · replace h := b_wp_f c2 h
    refine v_aload_n (f := 0) 0 rfl dX11_open_14 ?_
    refine v_getR (kf := 8) (kz := 8) rfl kd_0 rfl ⟨by decide, by decide⟩ rfl wf_11_78 dX11_open_15 ?_
    refine v_iload_n (f := 1) 1 rfl dX11_open_18 ?_
    refine v_aload_n (f := 0) 0 rfl dX11_open_19 ?_
    refine v_getI (kf := 10) (kz := 10) rfl kd_0 rfl ⟨by decide, by decide⟩ rfl wf_11_91 dX11_open_20 ?_
    refine v_cVIp (nA := 2) (As := [bI _, bI _]) (ix := 342) (cf_X3_isDoubtful (b_wp_b h)) rfl kd_9 rfl rfl wc_X3_isDoubtful wm_11_342 wi_X3_isDoubtful ws_X3_isDoubtful wn_3 ⟨by decide, by decide, by decide⟩ rfl ⟨by decide, by decide⟩ ⟨by decide, by decide⟩ (Nat.le_of_ble_eq_true rfl) dX11_open_23 (fun x3 h => ?_)
    refine v_if_ne (tgt := 32) dX11_open_26 (by decide) (fun c4 => ?_) (fun c4 => ?_)
    · replace h := b_wp_f c4 h
      refine v_aload_n (f := 0) 0 rfl dX11_open_32 ?_
      refine v_getR (kf := 5) (kz := 5) rfl kd_0 rfl ⟨by decide, by decide⟩ rfl wf_11_51 dX11_open_33 ?_
      refine v_aload_n (f := 0) 0 rfl dX11_open_36 ?_
      refine v_getI (kf := 10) (kz := 10) rfl kd_0 rfl ⟨by decide, by decide⟩ rfl wf_11_91 dX11_open_37 ?_
      refine v_cVV (nA := 1) (As := [bI _]) (ix := 284) (cf_X4_know (b_wp_b h)) rfl kd_6 rfl rfl wc_X4_know wm_11_284 wi_X4_know ws_X4_know wn_4 ⟨by decide, by decide, by decide⟩ rfl ⟨by decide, by decide⟩ ⟨by decide, by decide⟩ (Nat.le_of_ble_eq_true rfl) dX11_open_40 (fun M5 h => ?_)
      refine v_aload_n (f := 0) 0 rfl dX11_open_43 ?_
      refine v_getR (kf := 8) (kz := 8) rfl kd_0 rfl ⟨by decide, by decide⟩ rfl wf_11_78 dX11_open_44 ?_
      refine v_iload_n (f := 1) 1 rfl dX11_open_47 ?_
      refine v_aload_n (f := 0) 0 rfl dX11_open_48 ?_
      refine v_getI (kf := 10) (kz := 10) rfl kd_0 rfl ⟨by decide, by decide⟩ rfl wf_11_91 dX11_open_49 ?_
      refine v_cVI (nA := 2) (As := [bI _, bI _]) (ix := 345) (cf_X3_mustReopen (b_wp_b h)) rfl kd_9 rfl rfl wc_X3_mustReopen wm_11_345 wi_X3_mustReopen ws_X3_mustReopen wn_3 ⟨by decide, by decide, by decide⟩ rfl ⟨by decide, by decide⟩ ⟨by decide, by decide⟩ (Nat.le_of_ble_eq_true rfl) dX11_open_52 (fun x6 M7 h => ?_)
      replace h := b_wp_two h
      refine v_if_eq (tgt := 73) dX11_open_55 (by decide) (fun c8 => ?_) (fun c8 => ?_)
      · replace h := b_wp_t c8 h
        refine v_iconst ⟨by decide, by decide⟩ dX11_open_73 ?_
        refine v_ireturn rfl dX11_open_74 ⟨by decide, by decide⟩ ?_
        exact ⟨_, rfl, h⟩
      · replace h := b_wp_f c8 h
        refine v_aload_n (f := 0) 0 rfl dX11_open_58 ?_
        refine v_getR (kf := 8) (kz := 8) rfl kd_0 rfl ⟨by decide, by decide⟩ rfl wf_11_78 dX11_open_59 ?_
        refine v_iload_n (f := 1) 1 rfl dX11_open_62 ?_
        refine v_aload_n (f := 0) 0 rfl dX11_open_63 ?_
        refine v_getI (kf := 10) (kz := 10) rfl kd_0 rfl ⟨by decide, by decide⟩ rfl wf_11_91 dX11_open_64 ?_
        refine v_cVI (nA := 2) (As := [bI _, bI _]) (ix := 348) (cf_X3_reopen (b_wp_b h)) rfl kd_9 rfl rfl wc_X3_reopen wm_11_348 wi_X3_reopen ws_X3_reopen wn_3 ⟨by decide, by decide, by decide⟩ rfl ⟨by decide, by decide⟩ ⟨by decide, by decide⟩ (Nat.le_of_ble_eq_true rfl) dX11_open_67 (fun x9 M10 h => ?_)
        replace h := b_wp_two h
        refine v_goto (tgt := 74) dX11_open_70 (by decide) ?_
        refine v_ireturn rfl dX11_open_74 ⟨by decide, by decide⟩ ?_
        exact ⟨_, rfl, h⟩
    · replace h := b_wp_t c4 h
      refine v_bipush ⟨by decide, by decide⟩ (by decide) dX11_open_29 ?_
      refine v_ireturn rfl dX11_open_31 ⟨by decide, by decide⟩ ?_
      exact ⟨_, rfl, h⟩
  · replace h := b_wp_t c2 h
    refine v_bipush ⟨by decide, by decide⟩ (by decide) dX11_open_11 ?_
    refine v_ireturn rfl dX11_open_13 ⟨by decide, by decide⟩ ?_
    exact ⟨_, rfl, h⟩
theorem cf_X11_open {l : Launch} {E : bE} {M : bM} {v1 : Int} {Q : (Int × bM) → Prop} (h : b_wp (F_X11_open v1 M) Q) : b_C l E xX11_open yX11_open [bR 0, bI v1] M (b_pI Q) := b_met (by decide) ⟨rfl, rfl⟩ (Nat.le_of_ble_eq_true rfl) (fun _ _ => t_X11_open h)
abbrev xX3_putCoin : bX := ("BurntHall$Claims", prog_5_method_4_code, 2, (Option.some Jvm.ClassFile.FieldType.int), b_rm 1 0 0, 0, "putCoin")
abbrev yX3_putCoin : MethodName := ⟨"BurntHall$Claims", "putCoin", "(I)I"⟩
theorem dX3_putCoin_0 : decode prog_5_method_4_code 0 = .ok (.aload_n 0, 1) := by decide +kernel
theorem dX3_putCoin_1 : decode prog_5_method_4_code 1 = .ok (.getfield 54, 3) := by decide +kernel
theorem dX3_putCoin_4 : decode prog_5_method_4_code 4 = .ok (.iload_n 1, 1) := by decide +kernel
theorem dX3_putCoin_5 : decode prog_5_method_4_code 5 = .ok (.iadd, 1) := by decide +kernel
theorem dX3_putCoin_6 : decode prog_5_method_4_code 6 = .ok (.ldc 57, 2) := by decide +kernel
theorem dX3_putCoin_8 : decode prog_5_method_4_code 8 = .ok (.if_icmp .le 6, 3) := by decide +kernel
theorem dX3_putCoin_11 : decode prog_5_method_4_code 11 = .ok (.bipush (-2), 2) := by decide +kernel
theorem dX3_putCoin_13 : decode prog_5_method_4_code 13 = .ok (.ireturn, 1) := by decide +kernel
theorem dX3_putCoin_14 : decode prog_5_method_4_code 14 = .ok (.aload_n 0, 1) := by decide +kernel
theorem dX3_putCoin_15 : decode prog_5_method_4_code 15 = .ok (.dup, 1) := by decide +kernel
theorem dX3_putCoin_16 : decode prog_5_method_4_code 16 = .ok (.getfield 54, 3) := by decide +kernel
theorem dX3_putCoin_19 : decode prog_5_method_4_code 19 = .ok (.iload_n 1, 1) := by decide +kernel
theorem dX3_putCoin_20 : decode prog_5_method_4_code 20 = .ok (.iadd, 1) := by decide +kernel
theorem dX3_putCoin_21 : decode prog_5_method_4_code 21 = .ok (.putfield 54, 3) := by decide +kernel
theorem dX3_putCoin_24 : decode prog_5_method_4_code 24 = .ok (.aload_n 0, 1) := by decide +kernel
theorem dX3_putCoin_25 : decode prog_5_method_4_code 25 = .ok (.getfield 54, 3) := by decide +kernel
theorem dX3_putCoin_28 : decode prog_5_method_4_code 28 = .ok (.ireturn, 1) := by decide +kernel
noncomputable def F_X3_putCoin (v1 : Int) (M : bM) : Option (Int × bM) :=
  b_g (b_i32 ((M 9 1) + v1)) (if ((M 9 1) + v1) ≤ 9999999 then (b_g (b_i32 ((M 9 1) + v1)) (b_let (b_up M 9 1 ((M 9 1) + v1)) (fun M4 => some ((M4 9 1), M4)))) else (some ((-2), M)))
theorem t_X3_putCoin {l : Launch} {E : bE} {Q : (Int × bM) → Prop} {v1 : Int} {M : bM} (h : b_wp (F_X3_putCoin v1 M) (Q)) : V l E xX3_putCoin (0, 0) 0 [(0, bR 9), (1, bI v1)] [] M (b_pI Q) := by
  unfold F_X3_putCoin at h
  obtain ⟨g1, h⟩ := b_wp_g h
  refine v_aload_n (f := 0) 0 rfl dX3_putCoin_0 ?_
  refine v_getI (kf := 1) (kz := 1) rfl kd_9 rfl ⟨by decide, by decide⟩ rfl wf_3_54 dX3_putCoin_1 ?_
  refine v_iload_n (f := 1) 1 rfl dX3_putCoin_4 ?_
  refine v_iaddN g1 dX3_putCoin_5 ?_
  refine v_ldc (n := 9999999) ⟨by decide, by decide⟩ wk_3_57 dX3_putCoin_6 ?_
  refine v_icmp_le (tgt := 14) dX3_putCoin_8 (by decide) (fun c2 => ?_) (fun c2 => ?_)
  · replace h := b_wp_t c2 h
    obtain ⟨g3, h⟩ := b_wp_g h
    refine v_aload_n (f := 0) 0 rfl dX3_putCoin_14 ?_
    refine v_dup rfl dX3_putCoin_15 ?_
    refine v_getI (kf := 1) (kz := 1) rfl kd_9 rfl ⟨by decide, by decide⟩ rfl wf_3_54 dX3_putCoin_16 ?_
    refine v_iload_n (f := 1) 1 rfl dX3_putCoin_19 ?_
    refine v_iaddN g3 dX3_putCoin_20 ?_
    refine v_putI (kf := 1) (kz := 1) rfl kd_9 rfl ⟨by decide, by decide⟩ rfl wf_3_54 rfl rfl dX3_putCoin_21 ?_
    replace h := b_wp_l h
    refine v_aload_n (f := 0) 0 rfl dX3_putCoin_24 ?_
    refine v_getI (kf := 1) (kz := 1) rfl kd_9 rfl ⟨by decide, by decide⟩ rfl wf_3_54 dX3_putCoin_25 ?_
    refine v_ireturn rfl dX3_putCoin_28 ⟨by decide, by decide⟩ ?_
    exact ⟨_, rfl, h⟩
  · replace h := b_wp_f c2 h
    refine v_bipush ⟨by decide, by decide⟩ (by decide) dX3_putCoin_11 ?_
    refine v_ireturn rfl dX3_putCoin_13 ⟨by decide, by decide⟩ ?_
    exact ⟨_, rfl, h⟩
theorem cf_X3_putCoin {l : Launch} {E : bE} {M : bM} {v1 : Int} {Q : (Int × bM) → Prop} (h : b_wp (F_X3_putCoin v1 M) Q) : b_C l E xX3_putCoin yX3_putCoin [bR 9, bI v1] M (b_pI Q) := b_met (by decide) ⟨rfl, rfl⟩ (Nat.le_of_ble_eq_true rfl) (fun _ _ => t_X3_putCoin h)
abbrev xX11_fund : bX := ("BurntHall", prog_1_method_50_code, 2, (Option.some Jvm.ClassFile.FieldType.int), b_rm 2 0 0, 0, "fund")
abbrev yX11_fund : MethodName := ⟨"BurntHall", "fund", "(I)I"⟩
theorem dX11_fund_0 : decode prog_1_method_50_code 0 = .ok (.iload_n 1, 1) := by decide +kernel
theorem dX11_fund_1 : decode prog_1_method_50_code 1 = .ok (.iconst 1, 1) := by decide +kernel
theorem dX11_fund_2 : decode prog_1_method_50_code 2 = .ok (.if_icmp .lt 10, 3) := by decide +kernel
theorem dX11_fund_5 : decode prog_1_method_50_code 5 = .ok (.iload_n 1, 1) := by decide +kernel
theorem dX11_fund_6 : decode prog_1_method_50_code 6 = .ok (.ldc_w 310, 3) := by decide +kernel
theorem dX11_fund_9 : decode prog_1_method_50_code 9 = .ok (.if_icmp .le 8, 3) := by decide +kernel
theorem dX11_fund_12 : decode prog_1_method_50_code 12 = .ok (.bipush (-2), 2) := by decide +kernel
theorem dX11_fund_14 : decode prog_1_method_50_code 14 = .ok (.goto 11, 3) := by decide +kernel
theorem dX11_fund_17 : decode prog_1_method_50_code 17 = .ok (.aload_n 0, 1) := by decide +kernel
theorem dX11_fund_18 : decode prog_1_method_50_code 18 = .ok (.getfield 78, 3) := by decide +kernel
theorem dX11_fund_21 : decode prog_1_method_50_code 21 = .ok (.iload_n 1, 1) := by decide +kernel
theorem dX11_fund_22 : decode prog_1_method_50_code 22 = .ok (.invokevirtual 351, 3) := by decide +kernel
theorem dX11_fund_25 : decode prog_1_method_50_code 25 = .ok (.ireturn, 1) := by decide +kernel
noncomputable def F_X11_fund (v1 : Int) (M : bM) : Option (Int × bM) :=
  if v1 < 1 then (some ((-2), M)) else (if v1 ≤ 99999 then (b_bind (F_X3_putCoin v1 M) (fun t => b_two t (fun x3 M4 => some (x3, M4)))) else (some ((-2), M)))
theorem t_X11_fund {l : Launch} {E : bE} {Q : (Int × bM) → Prop} {v1 : Int} {M : bM} (h : b_wp (F_X11_fund v1 M) (Q)) : V l E xX11_fund (0, 0) 0 [(0, bR 0), (1, bI v1)] [] M (b_pI Q) := by
  unfold F_X11_fund at h
  refine v_iload_n (f := 1) 1 rfl dX11_fund_0 ?_
  refine v_iconst ⟨by decide, by decide⟩ dX11_fund_1 ?_
  refine v_icmp_lt (tgt := 12) dX11_fund_2 (by decide) (fun c1 => ?_) (fun c1 => ?_)
  · replace h := b_wp_t c1 h
    refine v_bipush ⟨by decide, by decide⟩ (by decide) dX11_fund_12 ?_
    refine v_goto (tgt := 25) dX11_fund_14 (by decide) ?_
    refine v_ireturn rfl dX11_fund_25 ⟨by decide, by decide⟩ ?_
    exact ⟨_, rfl, h⟩
  · replace h := b_wp_f c1 h
    refine v_iload_n (f := 1) 1 rfl dX11_fund_5 ?_
    refine v_ldcw (n := 99999) ⟨by decide, by decide⟩ wk_11_310 dX11_fund_6 ?_
    refine v_icmp_le (tgt := 17) dX11_fund_9 (by decide) (fun c2 => ?_) (fun c2 => ?_)
    · replace h := b_wp_t c2 h
      refine v_aload_n (f := 0) 0 rfl dX11_fund_17 ?_
      refine v_getR (kf := 8) (kz := 8) rfl kd_0 rfl ⟨by decide, by decide⟩ rfl wf_11_78 dX11_fund_18 ?_
      refine v_iload_n (f := 1) 1 rfl dX11_fund_21 ?_
      refine v_cVI (nA := 1) (As := [bI _]) (ix := 351) (cf_X3_putCoin (b_wp_b h)) rfl kd_9 rfl rfl wc_X3_putCoin wm_11_351 wi_X3_putCoin ws_X3_putCoin wn_3 ⟨by decide, by decide, by decide⟩ rfl ⟨by decide, by decide⟩ ⟨by decide, by decide⟩ (Nat.le_of_ble_eq_true rfl) dX11_fund_22 (fun x3 M4 h => ?_)
      replace h := b_wp_two h
      refine v_ireturn rfl dX11_fund_25 ⟨by decide, by decide⟩ ?_
      exact ⟨_, rfl, h⟩
    · replace h := b_wp_f c2 h
      refine v_bipush ⟨by decide, by decide⟩ (by decide) dX11_fund_12 ?_
      refine v_goto (tgt := 25) dX11_fund_14 (by decide) ?_
      refine v_ireturn rfl dX11_fund_25 ⟨by decide, by decide⟩ ?_
      exact ⟨_, rfl, h⟩
theorem cf_X11_fund {l : Launch} {E : bE} {M : bM} {v1 : Int} {Q : (Int × bM) → Prop} (h : b_wp (F_X11_fund v1 M) Q) : b_C l E xX11_fund yX11_fund [bR 0, bI v1] M (b_pI Q) := b_met (by decide) ⟨rfl, rfl⟩ (Nat.le_of_ble_eq_true rfl) (fun _ _ => t_X11_fund h)
abbrev xX9_add : bX := ("BurntHall$Places", prog_11_method_2_code, 4, (Option.some Jvm.ClassFile.FieldType.int), b_rm 1 0 0, 0, "add")
abbrev yX9_add : MethodName := ⟨"BurntHall$Places", "add", "(III)I"⟩
theorem dX9_add_0 : decode prog_11_method_2_code 0 = .ok (.aload_n 0, 1) := by decide +kernel
theorem dX9_add_1 : decode prog_11_method_2_code 1 = .ok (.getfield 55, 3) := by decide +kernel
theorem dX9_add_4 : decode prog_11_method_2_code 4 = .ok (.bipush 12, 2) := by decide +kernel
theorem dX9_add_6 : decode prog_11_method_2_code 6 = .ok (.if_icmp .lt 6, 3) := by decide +kernel
theorem dX9_add_9 : decode prog_11_method_2_code 9 = .ok (.bipush (-3), 2) := by decide +kernel
theorem dX9_add_11 : decode prog_11_method_2_code 11 = .ok (.ireturn, 1) := by decide +kernel
theorem dX9_add_12 : decode prog_11_method_2_code 12 = .ok (.aload_n 0, 1) := by decide +kernel
theorem dX9_add_13 : decode prog_11_method_2_code 13 = .ok (.getfield 11, 3) := by decide +kernel
theorem dX9_add_16 : decode prog_11_method_2_code 16 = .ok (.aload_n 0, 1) := by decide +kernel
theorem dX9_add_17 : decode prog_11_method_2_code 17 = .ok (.getfield 55, 3) := by decide +kernel
theorem dX9_add_20 : decode prog_11_method_2_code 20 = .ok (.iload_n 1, 1) := by decide +kernel
theorem dX9_add_21 : decode prog_11_method_2_code 21 = .ok (.iastore, 1) := by decide +kernel
theorem dX9_add_22 : decode prog_11_method_2_code 22 = .ok (.aload_n 0, 1) := by decide +kernel
theorem dX9_add_23 : decode prog_11_method_2_code 23 = .ok (.getfield 15, 3) := by decide +kernel
theorem dX9_add_26 : decode prog_11_method_2_code 26 = .ok (.aload_n 0, 1) := by decide +kernel
theorem dX9_add_27 : decode prog_11_method_2_code 27 = .ok (.getfield 55, 3) := by decide +kernel
theorem dX9_add_30 : decode prog_11_method_2_code 30 = .ok (.iload_n 2, 1) := by decide +kernel
theorem dX9_add_31 : decode prog_11_method_2_code 31 = .ok (.iastore, 1) := by decide +kernel
theorem dX9_add_32 : decode prog_11_method_2_code 32 = .ok (.aload_n 0, 1) := by decide +kernel
theorem dX9_add_33 : decode prog_11_method_2_code 33 = .ok (.getfield 18, 3) := by decide +kernel
theorem dX9_add_36 : decode prog_11_method_2_code 36 = .ok (.aload_n 0, 1) := by decide +kernel
theorem dX9_add_37 : decode prog_11_method_2_code 37 = .ok (.getfield 55, 3) := by decide +kernel
theorem dX9_add_40 : decode prog_11_method_2_code 40 = .ok (.iload_n 3, 1) := by decide +kernel
theorem dX9_add_41 : decode prog_11_method_2_code 41 = .ok (.iastore, 1) := by decide +kernel
theorem dX9_add_42 : decode prog_11_method_2_code 42 = .ok (.aload_n 0, 1) := by decide +kernel
theorem dX9_add_43 : decode prog_11_method_2_code 43 = .ok (.dup, 1) := by decide +kernel
theorem dX9_add_44 : decode prog_11_method_2_code 44 = .ok (.getfield 55, 3) := by decide +kernel
theorem dX9_add_47 : decode prog_11_method_2_code 47 = .ok (.iconst 1, 1) := by decide +kernel
theorem dX9_add_48 : decode prog_11_method_2_code 48 = .ok (.iadd, 1) := by decide +kernel
theorem dX9_add_49 : decode prog_11_method_2_code 49 = .ok (.putfield 55, 3) := by decide +kernel
theorem dX9_add_52 : decode prog_11_method_2_code 52 = .ok (.aload_n 0, 1) := by decide +kernel
theorem dX9_add_53 : decode prog_11_method_2_code 53 = .ok (.iconst 0, 1) := by decide +kernel
theorem dX9_add_54 : decode prog_11_method_2_code 54 = .ok (.putfield 59, 3) := by decide +kernel
theorem dX9_add_57 : decode prog_11_method_2_code 57 = .ok (.aload_n 0, 1) := by decide +kernel
theorem dX9_add_58 : decode prog_11_method_2_code 58 = .ok (.getfield 55, 3) := by decide +kernel
theorem dX9_add_61 : decode prog_11_method_2_code 61 = .ok (.iconst 1, 1) := by decide +kernel
theorem dX9_add_62 : decode prog_11_method_2_code 62 = .ok (.isub, 1) := by decide +kernel
theorem dX9_add_63 : decode prog_11_method_2_code 63 = .ok (.ireturn, 1) := by decide +kernel
noncomputable def F_X9_add (v1 : Int) (v2 : Int) (v3 : Int) (M : bM) : Option (Int × bM) :=
  if (M 10 0) < 12 then (b_g (0 ≤ (M 10 0) ∧ (M 10 0) < 12) (b_let (b_up M 155 (M 10 0) v1) (fun M3 => b_g (0 ≤ (M3 10 0) ∧ (M3 10 0) < 12) (b_let (b_up M3 156 (M3 10 0) v2) (fun M5 => b_g (0 ≤ (M5 10 0) ∧ (M5 10 0) < 12) (b_let (b_up M5 157 (M5 10 0) v3) (fun M7 => b_g (b_i32 ((M7 10 0) + 1)) (b_let (b_up M7 10 0 ((M7 10 0) + 1)) (fun M9 => b_let (b_up M9 10 13 0) (fun M10 => b_g (b_i32 ((M10 10 0) - 1)) (some (((M10 10 0) - 1), M10)))))))))))) else (some ((-3), M))
theorem t_X9_add {l : Launch} {E : bE} {Q : (Int × bM) → Prop} {v1 : Int} {v2 : Int} {v3 : Int} {M : bM} (h : b_wp (F_X9_add v1 v2 v3 M) (Q)) : V l E xX9_add (0, 0) 0 [(0, bR 10), (1, bI v1), (2, bI v2), (3, bI v3)] [] M (b_pI Q) := by
  unfold F_X9_add at h
  refine v_aload_n (f := 0) 0 rfl dX9_add_0 ?_
  refine v_getI (kf := 0) (kz := 0) rfl kd_10 rfl ⟨by decide, by decide⟩ rfl wf_9_55 dX9_add_1 ?_
  refine v_bipush ⟨by decide, by decide⟩ (by decide) dX9_add_4 ?_
  refine v_icmp_lt (tgt := 12) dX9_add_6 (by decide) (fun c1 => ?_) (fun c1 => ?_)
  · replace h := b_wp_t c1 h
    obtain ⟨g2, h⟩ := b_wp_g h
    refine v_aload_n (f := 0) 0 rfl dX9_add_12 ?_
    refine v_getR (kf := 5) (kz := 5) rfl kd_10 rfl ⟨by decide, by decide⟩ rfl wf_9_11 dX9_add_13 ?_
    refine v_aload_n (f := 0) 0 rfl dX9_add_16 ?_
    refine v_getI (kf := 0) (kz := 0) rfl kd_10 rfl ⟨by decide, by decide⟩ rfl wf_9_55 dX9_add_17 ?_
    refine v_iload_n (f := 1) 1 rfl dX9_add_20 ?_
    refine v_iastore kd_155 g2 (by decide) dX9_add_21 ?_
    replace h := b_wp_l h
    obtain ⟨g4, h⟩ := b_wp_g h
    refine v_aload_n (f := 0) 0 rfl dX9_add_22 ?_
    refine v_getR (kf := 6) (kz := 6) rfl kd_10 rfl ⟨by decide, by decide⟩ rfl wf_9_15 dX9_add_23 ?_
    refine v_aload_n (f := 0) 0 rfl dX9_add_26 ?_
    refine v_getI (kf := 0) (kz := 0) rfl kd_10 rfl ⟨by decide, by decide⟩ rfl wf_9_55 dX9_add_27 ?_
    refine v_iload_n (f := 2) 2 rfl dX9_add_30 ?_
    refine v_iastore kd_156 g4 (by decide) dX9_add_31 ?_
    replace h := b_wp_l h
    obtain ⟨g6, h⟩ := b_wp_g h
    refine v_aload_n (f := 0) 0 rfl dX9_add_32 ?_
    refine v_getR (kf := 7) (kz := 7) rfl kd_10 rfl ⟨by decide, by decide⟩ rfl wf_9_18 dX9_add_33 ?_
    refine v_aload_n (f := 0) 0 rfl dX9_add_36 ?_
    refine v_getI (kf := 0) (kz := 0) rfl kd_10 rfl ⟨by decide, by decide⟩ rfl wf_9_55 dX9_add_37 ?_
    refine v_iload_n (f := 3) 3 rfl dX9_add_40 ?_
    refine v_iastore kd_157 g6 (by decide) dX9_add_41 ?_
    replace h := b_wp_l h
    obtain ⟨g8, h⟩ := b_wp_g h
    refine v_aload_n (f := 0) 0 rfl dX9_add_42 ?_
    refine v_dup rfl dX9_add_43 ?_
    refine v_getI (kf := 0) (kz := 0) rfl kd_10 rfl ⟨by decide, by decide⟩ rfl wf_9_55 dX9_add_44 ?_
    refine v_iconst ⟨by decide, by decide⟩ dX9_add_47 ?_
    refine v_iaddN g8 dX9_add_48 ?_
    refine v_putI (kf := 0) (kz := 0) rfl kd_10 rfl ⟨by decide, by decide⟩ rfl wf_9_55 rfl rfl dX9_add_49 ?_
    replace h := b_wp_l h
    refine v_aload_n (f := 0) 0 rfl dX9_add_52 ?_
    refine v_iconst ⟨by decide, by decide⟩ dX9_add_53 ?_
    refine v_putZ (kf := 13) (kz := 13) rfl kd_10 rfl ⟨by decide, by decide⟩ rfl (Or.inl rfl) wf_9_59 rfl rfl dX9_add_54 ?_
    replace h := b_wp_l h
    obtain ⟨g11, h⟩ := b_wp_g h
    refine v_aload_n (f := 0) 0 rfl dX9_add_57 ?_
    refine v_getI (kf := 0) (kz := 0) rfl kd_10 rfl ⟨by decide, by decide⟩ rfl wf_9_55 dX9_add_58 ?_
    refine v_iconst ⟨by decide, by decide⟩ dX9_add_61 ?_
    refine v_isubN g11 dX9_add_62 ?_
    refine v_ireturn rfl dX9_add_63 ⟨by decide, by decide⟩ ?_
    exact ⟨_, rfl, h⟩
  · replace h := b_wp_f c1 h
    refine v_bipush ⟨by decide, by decide⟩ (by decide) dX9_add_9 ?_
    refine v_ireturn rfl dX9_add_11 ⟨by decide, by decide⟩ ?_
    exact ⟨_, rfl, h⟩
theorem cf_X9_add {l : Launch} {E : bE} {M : bM} {v1 : Int} {v2 : Int} {v3 : Int} {Q : (Int × bM) → Prop} (h : b_wp (F_X9_add v1 v2 v3 M) Q) : b_C l E xX9_add yX9_add [bR 10, bI v1, bI v2, bI v3] M (b_pI Q) := b_met (by decide) ⟨rfl, rfl⟩ (Nat.le_of_ble_eq_true rfl) (fun _ _ => t_X9_add h)
abbrev xX11_place : bX := ("BurntHall", prog_1_method_51_code, 4, (Option.some Jvm.ClassFile.FieldType.int), b_rm 2 0 0, 0, "place")
abbrev yX11_place : MethodName := ⟨"BurntHall", "place", "(III)I"⟩
theorem dX11_place_0 : decode prog_1_method_51_code 0 = .ok (.iload_n 1, 1) := by decide +kernel
theorem dX11_place_1 : decode prog_1_method_51_code 1 = .ok (.iconst 1, 1) := by decide +kernel
theorem dX11_place_2 : decode prog_1_method_51_code 2 = .ok (.if_icmp .lt 35, 3) := by decide +kernel
theorem dX11_place_5 : decode prog_1_method_51_code 5 = .ok (.iload_n 1, 1) := by decide +kernel
theorem dX11_place_6 : decode prog_1_method_51_code 6 = .ok (.bipush 99, 2) := by decide +kernel
theorem dX11_place_8 : decode prog_1_method_51_code 8 = .ok (.if_icmp .gt 29, 3) := by decide +kernel
theorem dX11_place_11 : decode prog_1_method_51_code 11 = .ok (.iload_n 2, 1) := by decide +kernel
theorem dX11_place_12 : decode prog_1_method_51_code 12 = .ok (.ifCond .lt 25, 3) := by decide +kernel
theorem dX11_place_15 : decode prog_1_method_51_code 15 = .ok (.iload_n 2, 1) := by decide +kernel
theorem dX11_place_16 : decode prog_1_method_51_code 16 = .ok (.aload_n 0, 1) := by decide +kernel
theorem dX11_place_17 : decode prog_1_method_51_code 17 = .ok (.getfield 51, 3) := by decide +kernel
theorem dX11_place_20 : decode prog_1_method_51_code 20 = .ok (.getfield 243, 3) := by decide +kernel
theorem dX11_place_23 : decode prog_1_method_51_code 23 = .ok (.if_icmp .ge 14, 3) := by decide +kernel
theorem dX11_place_26 : decode prog_1_method_51_code 26 = .ok (.iload_n 3, 1) := by decide +kernel
theorem dX11_place_27 : decode prog_1_method_51_code 27 = .ok (.iconst 1, 1) := by decide +kernel
theorem dX11_place_28 : decode prog_1_method_51_code 28 = .ok (.if_icmp .lt 9, 3) := by decide +kernel
theorem dX11_place_31 : decode prog_1_method_51_code 31 = .ok (.iload_n 3, 1) := by decide +kernel
theorem dX11_place_32 : decode prog_1_method_51_code 32 = .ok (.bipush 99, 2) := by decide +kernel
theorem dX11_place_34 : decode prog_1_method_51_code 34 = .ok (.if_icmp .le 6, 3) := by decide +kernel
theorem dX11_place_37 : decode prog_1_method_51_code 37 = .ok (.bipush (-2), 2) := by decide +kernel
theorem dX11_place_39 : decode prog_1_method_51_code 39 = .ok (.ireturn, 1) := by decide +kernel
theorem dX11_place_40 : decode prog_1_method_51_code 40 = .ok (.aload_n 0, 1) := by decide +kernel
theorem dX11_place_41 : decode prog_1_method_51_code 41 = .ok (.getfield 87, 3) := by decide +kernel
theorem dX11_place_44 : decode prog_1_method_51_code 44 = .ok (.iload_n 1, 1) := by decide +kernel
theorem dX11_place_45 : decode prog_1_method_51_code 45 = .ok (.iload_n 2, 1) := by decide +kernel
theorem dX11_place_46 : decode prog_1_method_51_code 46 = .ok (.iload_n 3, 1) := by decide +kernel
theorem dX11_place_47 : decode prog_1_method_51_code 47 = .ok (.invokevirtual 354, 3) := by decide +kernel
theorem dX11_place_50 : decode prog_1_method_51_code 50 = .ok (.ireturn, 1) := by decide +kernel
noncomputable def F_X11_place (v1 : Int) (v2 : Int) (v3 : Int) (M : bM) : Option (Int × bM) :=
  if v1 < 1 then (some ((-2), M)) else (if 99 < v1 then (some ((-2), M)) else (if v2 < 0 then (some ((-2), M)) else (if (M 6 0) ≤ v2 then (some ((-2), M)) else (if v3 < 1 then (some ((-2), M)) else (if v3 ≤ 99 then (b_bind (F_X9_add v1 v2 v3 M) (fun t => b_two t (fun x7 M8 => some (x7, M8)))) else (some ((-2), M)))))))
theorem t_X11_place {l : Launch} {E : bE} {Q : (Int × bM) → Prop} {v1 : Int} {v2 : Int} {v3 : Int} {M : bM} (h : b_wp (F_X11_place v1 v2 v3 M) (Q)) : V l E xX11_place (0, 0) 0 [(0, bR 0), (1, bI v1), (2, bI v2), (3, bI v3)] [] M (b_pI Q) := by
  unfold F_X11_place at h
  refine v_iload_n (f := 1) 1 rfl dX11_place_0 ?_
  refine v_iconst ⟨by decide, by decide⟩ dX11_place_1 ?_
  refine v_icmp_lt (tgt := 37) dX11_place_2 (by decide) (fun c1 => ?_) (fun c1 => ?_)
  · replace h := b_wp_t c1 h
    refine v_bipush ⟨by decide, by decide⟩ (by decide) dX11_place_37 ?_
    refine v_ireturn rfl dX11_place_39 ⟨by decide, by decide⟩ ?_
    exact ⟨_, rfl, h⟩
  · replace h := b_wp_f c1 h
    refine v_iload_n (f := 1) 1 rfl dX11_place_5 ?_
    refine v_bipush ⟨by decide, by decide⟩ (by decide) dX11_place_6 ?_
    refine v_icmp_gt (tgt := 37) dX11_place_8 (by decide) (fun c2 => ?_) (fun c2 => ?_)
    · replace h := b_wp_t c2 h
      refine v_bipush ⟨by decide, by decide⟩ (by decide) dX11_place_37 ?_
      refine v_ireturn rfl dX11_place_39 ⟨by decide, by decide⟩ ?_
      exact ⟨_, rfl, h⟩
    · replace h := b_wp_f c2 h
      refine v_iload_n (f := 2) 2 rfl dX11_place_11 ?_
      refine v_if_lt (tgt := 37) dX11_place_12 (by decide) (fun c3 => ?_) (fun c3 => ?_)
      · replace h := b_wp_t c3 h
        refine v_bipush ⟨by decide, by decide⟩ (by decide) dX11_place_37 ?_
        refine v_ireturn rfl dX11_place_39 ⟨by decide, by decide⟩ ?_
        exact ⟨_, rfl, h⟩
      · replace h := b_wp_f c3 h
        refine v_iload_n (f := 2) 2 rfl dX11_place_15 ?_
        refine v_aload_n (f := 0) 0 rfl dX11_place_16 ?_
        refine v_getR (kf := 5) (kz := 5) rfl kd_0 rfl ⟨by decide, by decide⟩ rfl wf_11_51 dX11_place_17 ?_
        refine v_getI (kf := 0) (kz := 0) rfl kd_6 rfl ⟨by decide, by decide⟩ rfl wf_11_243 dX11_place_20 ?_
        refine v_icmp_ge (tgt := 37) dX11_place_23 (by decide) (fun c4 => ?_) (fun c4 => ?_)
        · replace h := b_wp_t c4 h
          refine v_bipush ⟨by decide, by decide⟩ (by decide) dX11_place_37 ?_
          refine v_ireturn rfl dX11_place_39 ⟨by decide, by decide⟩ ?_
          exact ⟨_, rfl, h⟩
        · replace h := b_wp_f c4 h
          refine v_iload_n (f := 3) 3 rfl dX11_place_26 ?_
          refine v_iconst ⟨by decide, by decide⟩ dX11_place_27 ?_
          refine v_icmp_lt (tgt := 37) dX11_place_28 (by decide) (fun c5 => ?_) (fun c5 => ?_)
          · replace h := b_wp_t c5 h
            refine v_bipush ⟨by decide, by decide⟩ (by decide) dX11_place_37 ?_
            refine v_ireturn rfl dX11_place_39 ⟨by decide, by decide⟩ ?_
            exact ⟨_, rfl, h⟩
          · replace h := b_wp_f c5 h
            refine v_iload_n (f := 3) 3 rfl dX11_place_31 ?_
            refine v_bipush ⟨by decide, by decide⟩ (by decide) dX11_place_32 ?_
            refine v_icmp_le (tgt := 40) dX11_place_34 (by decide) (fun c6 => ?_) (fun c6 => ?_)
            · replace h := b_wp_t c6 h
              refine v_aload_n (f := 0) 0 rfl dX11_place_40 ?_
              refine v_getR (kf := 9) (kz := 9) rfl kd_0 rfl ⟨by decide, by decide⟩ rfl wf_11_87 dX11_place_41 ?_
              refine v_iload_n (f := 1) 1 rfl dX11_place_44 ?_
              refine v_iload_n (f := 2) 2 rfl dX11_place_45 ?_
              refine v_iload_n (f := 3) 3 rfl dX11_place_46 ?_
              refine v_cVI (nA := 3) (As := [bI _, bI _, bI _]) (ix := 354) (cf_X9_add (b_wp_b h)) rfl kd_10 rfl rfl wc_X9_add wm_11_354 wi_X9_add ws_X9_add wn_9 ⟨by decide, by decide, by decide⟩ rfl ⟨by decide, by decide⟩ ⟨by decide, by decide⟩ (Nat.le_of_ble_eq_true rfl) dX11_place_47 (fun x7 M8 h => ?_)
              replace h := b_wp_two h
              refine v_ireturn rfl dX11_place_50 ⟨by decide, by decide⟩ ?_
              exact ⟨_, rfl, h⟩
            · replace h := b_wp_f c6 h
              refine v_bipush ⟨by decide, by decide⟩ (by decide) dX11_place_37 ?_
              refine v_ireturn rfl dX11_place_39 ⟨by decide, by decide⟩ ?_
              exact ⟨_, rfl, h⟩
theorem cf_X11_place {l : Launch} {E : bE} {M : bM} {v1 : Int} {v2 : Int} {v3 : Int} {Q : (Int × bM) → Prop} (h : b_wp (F_X11_place v1 v2 v3 M) Q) : b_C l E xX11_place yX11_place [bR 0, bI v1, bI v2, bI v3] M (b_pI Q) := b_met (by decide) ⟨rfl, rfl⟩ (Nat.le_of_ble_eq_true rfl) (fun _ _ => t_X11_place h)
abbrev xX9_addCase : bX := ("BurntHall$Places", prog_11_method_5_code, 8, (Option.some Jvm.ClassFile.FieldType.boolean), b_rm 2 0 0, 0, "addCase")
abbrev yX9_addCase : MethodName := ⟨"BurntHall$Places", "addCase", "(LBurntHall$Act;)Z"⟩
theorem dX9_addCase_0 : decode prog_11_method_5_code 0 = .ok (.aload_n 1, 1) := by decide +kernel
theorem dX9_addCase_1 : decode prog_11_method_5_code 1 = .ok (.iconst 1, 1) := by decide +kernel
theorem dX9_addCase_2 : decode prog_11_method_5_code 2 = .ok (.invokevirtual 101, 3) := by decide +kernel
theorem dX9_addCase_5 : decode prog_11_method_5_code 5 = .ok (.istore_n 2, 1) := by decide +kernel
theorem dX9_addCase_6 : decode prog_11_method_5_code 6 = .ok (.aload_n 0, 1) := by decide +kernel
theorem dX9_addCase_7 : decode prog_11_method_5_code 7 = .ok (.getfield 47, 3) := by decide +kernel
theorem dX9_addCase_10 : decode prog_11_method_5_code 10 = .ok (.getfield 104, 3) := by decide +kernel
theorem dX9_addCase_13 : decode prog_11_method_5_code 13 = .ok (.iconst 2, 1) := by decide +kernel
theorem dX9_addCase_14 : decode prog_11_method_5_code 14 = .ok (.iaload, 1) := by decide +kernel
theorem dX9_addCase_15 : decode prog_11_method_5_code 15 = .ok (.istore_n 3, 1) := by decide +kernel
theorem dX9_addCase_16 : decode prog_11_method_5_code 16 = .ok (.aload_n 0, 1) := by decide +kernel
theorem dX9_addCase_17 : decode prog_11_method_5_code 17 = .ok (.getfield 47, 3) := by decide +kernel
theorem dX9_addCase_20 : decode prog_11_method_5_code 20 = .ok (.getfield 104, 3) := by decide +kernel
theorem dX9_addCase_23 : decode prog_11_method_5_code 23 = .ok (.iconst 0, 1) := by decide +kernel
theorem dX9_addCase_24 : decode prog_11_method_5_code 24 = .ok (.iaload, 1) := by decide +kernel
theorem dX9_addCase_25 : decode prog_11_method_5_code 25 = .ok (.aload_n 1, 1) := by decide +kernel
theorem dX9_addCase_26 : decode prog_11_method_5_code 26 = .ok (.iconst 3, 1) := by decide +kernel
theorem dX9_addCase_27 : decode prog_11_method_5_code 27 = .ok (.invokevirtual 101, 3) := by decide +kernel
theorem dX9_addCase_30 : decode prog_11_method_5_code 30 = .ok (.if_icmp .gt 20, 3) := by decide +kernel
theorem dX9_addCase_33 : decode prog_11_method_5_code 33 = .ok (.aload_n 0, 1) := by decide +kernel
theorem dX9_addCase_34 : decode prog_11_method_5_code 34 = .ok (.getfield 47, 3) := by decide +kernel
theorem dX9_addCase_37 : decode prog_11_method_5_code 37 = .ok (.getfield 104, 3) := by decide +kernel
theorem dX9_addCase_40 : decode prog_11_method_5_code 40 = .ok (.iconst 1, 1) := by decide +kernel
theorem dX9_addCase_41 : decode prog_11_method_5_code 41 = .ok (.iaload, 1) := by decide +kernel
theorem dX9_addCase_42 : decode prog_11_method_5_code 42 = .ok (.iload_n 2, 1) := by decide +kernel
theorem dX9_addCase_43 : decode prog_11_method_5_code 43 = .ok (.if_icmp .ge 9, 3) := by decide +kernel
theorem dX9_addCase_46 : decode prog_11_method_5_code 46 = .ok (.iload_n 3, 1) := by decide +kernel
theorem dX9_addCase_47 : decode prog_11_method_5_code 47 = .ok (.ifCond .ne 5, 3) := by decide +kernel
theorem dX9_addCase_50 : decode prog_11_method_5_code 50 = .ok (.iconst 0, 1) := by decide +kernel
theorem dX9_addCase_51 : decode prog_11_method_5_code 51 = .ok (.ireturn, 1) := by decide +kernel
theorem dX9_addCase_52 : decode prog_11_method_5_code 52 = .ok (.aload_n 0, 1) := by decide +kernel
theorem dX9_addCase_53 : decode prog_11_method_5_code 53 = .ok (.getfield 28, 3) := by decide +kernel
theorem dX9_addCase_56 : decode prog_11_method_5_code 56 = .ok (.aload_n 0, 1) := by decide +kernel
theorem dX9_addCase_57 : decode prog_11_method_5_code 57 = .ok (.getfield 69, 3) := by decide +kernel
theorem dX9_addCase_60 : decode prog_11_method_5_code 60 = .ok (.iconst 0, 1) := by decide +kernel
theorem dX9_addCase_61 : decode prog_11_method_5_code 61 = .ok (.iastore, 1) := by decide +kernel
theorem dX9_addCase_62 : decode prog_11_method_5_code 62 = .ok (.iconst 0, 1) := by decide +kernel
theorem dX9_addCase_63 : decode prog_11_method_5_code 63 = .ok (.istore 4, 2) := by decide +kernel
theorem dX9_addCase_65 : decode prog_11_method_5_code 65 = .ok (.iload 4, 2) := by decide +kernel
theorem dX9_addCase_67 : decode prog_11_method_5_code 67 = .ok (.iload_n 3, 1) := by decide +kernel
theorem dX9_addCase_68 : decode prog_11_method_5_code 68 = .ok (.if_icmp .ge 108, 3) := by decide +kernel
theorem dX9_addCase_71 : decode prog_11_method_5_code 71 = .ok (.iload 4, 2) := by decide +kernel
theorem dX9_addCase_73 : decode prog_11_method_5_code 73 = .ok (.bipush 8, 2) := by decide +kernel
theorem dX9_addCase_75 : decode prog_11_method_5_code 75 = .ok (.if_icmp .ge 101, 3) := by decide +kernel
theorem dX9_addCase_78 : decode prog_11_method_5_code 78 = .ok (.aload_n 0, 1) := by decide +kernel
theorem dX9_addCase_79 : decode prog_11_method_5_code 79 = .ok (.getfield 47, 3) := by decide +kernel
theorem dX9_addCase_82 : decode prog_11_method_5_code 82 = .ok (.getfield 104, 3) := by decide +kernel
theorem dX9_addCase_85 : decode prog_11_method_5_code 85 = .ok (.iconst 4, 1) := by decide +kernel
theorem dX9_addCase_86 : decode prog_11_method_5_code 86 = .ok (.iload 4, 2) := by decide +kernel
theorem dX9_addCase_88 : decode prog_11_method_5_code 88 = .ok (.iadd, 1) := by decide +kernel
theorem dX9_addCase_89 : decode prog_11_method_5_code 89 = .ok (.iaload, 1) := by decide +kernel
theorem dX9_addCase_90 : decode prog_11_method_5_code 90 = .ok (.istore 5, 2) := by decide +kernel
theorem dX9_addCase_92 : decode prog_11_method_5_code 92 = .ok (.aload_n 0, 1) := by decide +kernel
theorem dX9_addCase_93 : decode prog_11_method_5_code 93 = .ok (.getfield 43, 3) := by decide +kernel
theorem dX9_addCase_96 : decode prog_11_method_5_code 96 = .ok (.iload 5, 2) := by decide +kernel
theorem dX9_addCase_98 : decode prog_11_method_5_code 98 = .ok (.bipush 8, 2) := by decide +kernel
theorem dX9_addCase_100 : decode prog_11_method_5_code 100 = .ok (.invokevirtual 107, 3) := by decide +kernel
theorem dX9_addCase_103 : decode prog_11_method_5_code 103 = .ok (.istore 6, 2) := by decide +kernel
theorem dX9_addCase_105 : decode prog_11_method_5_code 105 = .ok (.iload 6, 2) := by decide +kernel
theorem dX9_addCase_107 : decode prog_11_method_5_code 107 = .ok (.iload_n 2, 1) := by decide +kernel
theorem dX9_addCase_108 : decode prog_11_method_5_code 108 = .ok (.if_icmp .ge 62, 3) := by decide +kernel
theorem dX9_addCase_111 : decode prog_11_method_5_code 111 = .ok (.iload 6, 2) := by decide +kernel
theorem dX9_addCase_113 : decode prog_11_method_5_code 113 = .ok (.ifCond .gt 5, 3) := by decide +kernel
theorem dX9_addCase_116 : decode prog_11_method_5_code 116 = .ok (.iconst 0, 1) := by decide +kernel
theorem dX9_addCase_117 : decode prog_11_method_5_code 117 = .ok (.ireturn, 1) := by decide +kernel
theorem dX9_addCase_118 : decode prog_11_method_5_code 118 = .ok (.aload_n 0, 1) := by decide +kernel
theorem dX9_addCase_119 : decode prog_11_method_5_code 119 = .ok (.getfield 69, 3) := by decide +kernel
theorem dX9_addCase_122 : decode prog_11_method_5_code 122 = .ok (.bipush 8, 2) := by decide +kernel
theorem dX9_addCase_124 : decode prog_11_method_5_code 124 = .ok (.imul, 1) := by decide +kernel
theorem dX9_addCase_125 : decode prog_11_method_5_code 125 = .ok (.aload_n 0, 1) := by decide +kernel
theorem dX9_addCase_126 : decode prog_11_method_5_code 126 = .ok (.getfield 28, 3) := by decide +kernel
theorem dX9_addCase_129 : decode prog_11_method_5_code 129 = .ok (.aload_n 0, 1) := by decide +kernel
theorem dX9_addCase_130 : decode prog_11_method_5_code 130 = .ok (.getfield 69, 3) := by decide +kernel
theorem dX9_addCase_133 : decode prog_11_method_5_code 133 = .ok (.iaload, 1) := by decide +kernel
theorem dX9_addCase_134 : decode prog_11_method_5_code 134 = .ok (.iadd, 1) := by decide +kernel
theorem dX9_addCase_135 : decode prog_11_method_5_code 135 = .ok (.istore 7, 2) := by decide +kernel
theorem dX9_addCase_137 : decode prog_11_method_5_code 137 = .ok (.aload_n 0, 1) := by decide +kernel
theorem dX9_addCase_138 : decode prog_11_method_5_code 138 = .ok (.getfield 33, 3) := by decide +kernel
theorem dX9_addCase_141 : decode prog_11_method_5_code 141 = .ok (.iload 7, 2) := by decide +kernel
theorem dX9_addCase_143 : decode prog_11_method_5_code 143 = .ok (.iload 5, 2) := by decide +kernel
theorem dX9_addCase_145 : decode prog_11_method_5_code 145 = .ok (.iastore, 1) := by decide +kernel
theorem dX9_addCase_146 : decode prog_11_method_5_code 146 = .ok (.aload_n 0, 1) := by decide +kernel
theorem dX9_addCase_147 : decode prog_11_method_5_code 147 = .ok (.getfield 36, 3) := by decide +kernel
theorem dX9_addCase_150 : decode prog_11_method_5_code 150 = .ok (.iload 7, 2) := by decide +kernel
theorem dX9_addCase_152 : decode prog_11_method_5_code 152 = .ok (.iload_n 2, 1) := by decide +kernel
theorem dX9_addCase_153 : decode prog_11_method_5_code 153 = .ok (.iload 6, 2) := by decide +kernel
theorem dX9_addCase_155 : decode prog_11_method_5_code 155 = .ok (.isub, 1) := by decide +kernel
theorem dX9_addCase_156 : decode prog_11_method_5_code 156 = .ok (.iastore, 1) := by decide +kernel
theorem dX9_addCase_157 : decode prog_11_method_5_code 157 = .ok (.aload_n 0, 1) := by decide +kernel
theorem dX9_addCase_158 : decode prog_11_method_5_code 158 = .ok (.getfield 28, 3) := by decide +kernel
theorem dX9_addCase_161 : decode prog_11_method_5_code 161 = .ok (.aload_n 0, 1) := by decide +kernel
theorem dX9_addCase_162 : decode prog_11_method_5_code 162 = .ok (.getfield 69, 3) := by decide +kernel
theorem dX9_addCase_165 : decode prog_11_method_5_code 165 = .ok (.dup2, 1) := by decide +kernel
theorem dX9_addCase_166 : decode prog_11_method_5_code 166 = .ok (.iaload, 1) := by decide +kernel
theorem dX9_addCase_167 : decode prog_11_method_5_code 167 = .ok (.iconst 1, 1) := by decide +kernel
theorem dX9_addCase_168 : decode prog_11_method_5_code 168 = .ok (.iadd, 1) := by decide +kernel
theorem dX9_addCase_169 : decode prog_11_method_5_code 169 = .ok (.iastore, 1) := by decide +kernel
theorem dX9_addCase_170 : decode prog_11_method_5_code 170 = .ok (.iinc 4 1, 3) := by decide +kernel
theorem dX9_addCase_173 : decode prog_11_method_5_code 173 = .ok (.goto (-108), 3) := by decide +kernel
theorem dX9_addCase_176 : decode prog_11_method_5_code 176 = .ok (.iconst 1, 1) := by decide +kernel
theorem dX9_addCase_177 : decode prog_11_method_5_code 177 = .ok (.ireturn, 1) := by decide +kernel
abbrev A_X9_addCase_a_65 (l : Launch) (E : bE) (Q : (Int × bM) → Prop) (v2 : Int) (v3 : Int) : (Int × bM) → Prop := (fun t : Int × bM => V l E xX9_addCase (0, 0) 65 [(0, bR 10), (2, bI v2), (3, bI v3), (4, bI (t.1))] [] t.2 (b_pI Q))
abbrev X_X9_addCase_a_65 (l : Launch) (E : bE) (Q : (Int × bM) → Prop) (v2 : Int) (v3 : Int) : ((bM) ⊕ (Int × bM)) → Prop := (Sum.elim (fun t : bM => V l E xX9_addCase (0, 0) 176 [] [] t (b_pI Q)) Q)
noncomputable def F_X9_addCase_a_s65 (v2 : Int) (v3 : Int) (v4 : Int) (M : bM) : Option ((Int × bM) ⊕ ((bM) ⊕ (Int × bM))) :=
  if v3 ≤ v4 then (some (.inr (.inl (M)))) else (if 8 ≤ v4 then (some (.inr (.inl (M)))) else (b_g ((b_i32 (4 + v4)) ∧ (0 ≤ (4 + v4) ∧ (4 + v4) < 12)) (b_let ((M 140 (4 + v4))) (fun y12 => b_bind (F_X4_fact y12 8 M) (fun x13 => if v2 ≤ x13 then (b_g (b_i32 (v4 + 1)) (some (.inl ((v4 + 1), M)))) else (if 0 < x13 then (b_g ((b_i32 ((M 10 9) * 8)) ∧ (0 ≤ (M 10 9) ∧ (M 10 9) < 30) ∧ (b_i32 (((M 10 9) * 8) + (M 159 (M 10 9))))) (b_let ((((M 10 9) * 8) + (M 159 (M 10 9)))) (fun y20 => b_g (0 ≤ y20 ∧ y20 < 240) (b_let (b_up M 160 y20 y12) (fun M22 => b_g ((b_i32 (v2 - x13)) ∧ (0 ≤ y20 ∧ y20 < 240)) (b_let (b_up M22 161 y20 (v2 - x13)) (fun M25 => b_g ((0 ≤ (M25 10 9) ∧ (M25 10 9) < 30) ∧ (b_i32 ((M25 159 (M25 10 9)) + 1))) (b_let (b_up M25 159 (M25 10 9) ((M25 159 (M25 10 9)) + 1)) (fun M28 => b_g (b_i32 (v4 + 1)) (some (.inl ((v4 + 1), M28)))))))))))) else (some (.inr (.inr (0, M))))))))))
theorem t_X9_addCase_a_s65 {l : Launch} {E : bE} {Q : (Int × bM) → Prop} {v2 : Int} {v3 : Int} {v4 : Int} {M : bM} (h : b_wp (F_X9_addCase_a_s65 v2 v3 v4 M) (Sum.elim (A_X9_addCase_a_65 l E Q v2 v3) (X_X9_addCase_a_65 l E Q v2 v3))) : V l E xX9_addCase (0, 0) 65 [(0, bR 10), (2, bI v2), (3, bI v3), (4, bI v4)] [] M (b_pI Q) := by
  unfold F_X9_addCase_a_s65 at h
  refine v_iload (i := 4) 3 rfl dX9_addCase_65 ?_
  refine v_iload_n (f := 3) 2 rfl dX9_addCase_67 ?_
  refine v_icmp_ge (tgt := 176) dX9_addCase_68 (by decide) (fun c8 => ?_) (fun c8 => ?_)
  · replace h := b_wp_t c8 h
    refine v_sub (ls2 := []) [] rfl ?_
    exact h
  · replace h := b_wp_f c8 h
    refine v_iload (i := 4) 3 rfl dX9_addCase_71 ?_
    refine v_bipush ⟨by decide, by decide⟩ (by decide) dX9_addCase_73 ?_
    refine v_icmp_ge (tgt := 176) dX9_addCase_75 (by decide) (fun c9 => ?_) (fun c9 => ?_)
    · replace h := b_wp_t c9 h
      refine v_sub (ls2 := []) [] rfl ?_
      exact h
    · replace h := b_wp_f c9 h
      obtain ⟨⟨g10, g11⟩, h⟩ := b_wp_g h
      refine v_aload_n (f := 0) 0 rfl dX9_addCase_78 ?_
      refine v_getR (kf := 3) (kz := 3) rfl kd_10 rfl ⟨by decide, by decide⟩ rfl wf_9_47 dX9_addCase_79 ?_
      refine v_getR (kf := 18) (kz := 18) rfl kd_7 rfl ⟨by decide, by decide⟩ rfl wf_9_104 dX9_addCase_82 ?_
      refine v_iconst ⟨by decide, by decide⟩ dX9_addCase_85 ?_
      refine v_iload (i := 4) 3 rfl dX9_addCase_86 ?_
      refine v_iaddN g10 dX9_addCase_88 ?_
      refine v_iaload kd_140 g11 (by decide) dX9_addCase_89 ?_
      replace h := b_wp_l h
      refine v_istore (i := 5) (ls' := [(5, bI _), (0, bR _), (2, bI _), (3, bI _), (4, bI _)]) (by decide) dX9_addCase_90 rfl ?_
      refine v_aload_n (f := 0) 1 rfl dX9_addCase_92 ?_
      refine v_getR (kf := 2) (kz := 2) rfl kd_10 rfl ⟨by decide, by decide⟩ rfl wf_9_43 dX9_addCase_93 ?_
      refine v_iload (i := 5) 0 rfl dX9_addCase_96 ?_
      refine v_bipush ⟨by decide, by decide⟩ (by decide) dX9_addCase_98 ?_
      refine v_cVIp (nA := 2) (As := [bI _, bI _]) (ix := 107) (cf_X4_fact (b_wp_b h)) rfl kd_6 rfl rfl wc_X4_fact wm_9_107 wi_X4_fact ws_X4_fact wn_4 ⟨by decide, by decide, by decide⟩ rfl ⟨by decide, by decide⟩ ⟨by decide, by decide⟩ (Nat.le_of_ble_eq_true rfl) dX9_addCase_100 (fun x13 h => ?_)
      refine v_istore (i := 6) (ls' := [(6, bI _), (5, bI _), (0, bR _), (2, bI _), (3, bI _), (4, bI _)]) (by decide) dX9_addCase_103 rfl ?_
      refine v_iload (i := 6) 0 rfl dX9_addCase_105 ?_
      refine v_iload_n (f := 2) 3 rfl dX9_addCase_107 ?_
      refine v_icmp_ge (tgt := 170) dX9_addCase_108 (by decide) (fun c14 => ?_) (fun c14 => ?_)
      · replace h := b_wp_t c14 h
        obtain ⟨g15, h⟩ := b_wp_g h
        refine v_iincN (ls' := [(4, bI _), (6, bI _), (5, bI _), (0, bR _), (2, bI _), (3, bI _)]) 5 rfl (by decide) g15 dX9_addCase_170 rfl ?_
        refine v_goto (tgt := 65) dX9_addCase_173 (by decide) ?_
        refine v_sub (ls2 := [(0, bR _), (2, bI _), (3, bI _), (4, bI _)]) [3, 4, 5, 0] rfl ?_
        exact h
      · replace h := b_wp_f c14 h
        refine v_iload (i := 6) 0 rfl dX9_addCase_111 ?_
        refine v_if_gt (tgt := 118) dX9_addCase_113 (by decide) (fun c16 => ?_) (fun c16 => ?_)
        · replace h := b_wp_t c16 h
          obtain ⟨⟨g17, g18, g19⟩, h⟩ := b_wp_g h
          refine v_aload_n (f := 0) 2 rfl dX9_addCase_118 ?_
          refine v_getI (kf := 9) (kz := 9) rfl kd_10 rfl ⟨by decide, by decide⟩ rfl wf_9_69 dX9_addCase_119 ?_
          refine v_bipush ⟨by decide, by decide⟩ (by decide) dX9_addCase_122 ?_
          refine v_imulN g17 dX9_addCase_124 ?_
          refine v_aload_n (f := 0) 2 rfl dX9_addCase_125 ?_
          refine v_getR (kf := 10) (kz := 10) rfl kd_10 rfl ⟨by decide, by decide⟩ rfl wf_9_28 dX9_addCase_126 ?_
          refine v_aload_n (f := 0) 2 rfl dX9_addCase_129 ?_
          refine v_getI (kf := 9) (kz := 9) rfl kd_10 rfl ⟨by decide, by decide⟩ rfl wf_9_69 dX9_addCase_130 ?_
          refine v_iaload kd_159 g18 (by decide) dX9_addCase_133 ?_
          refine v_iaddN g19 dX9_addCase_134 ?_
          replace h := b_wp_l h
          obtain ⟨g21, h⟩ := b_wp_g h
          refine v_istore (i := 7) (ls' := [(7, bI _), (6, bI _), (5, bI _), (0, bR _), (2, bI _), (3, bI _), (4, bI _)]) (by decide) dX9_addCase_135 rfl ?_
          refine v_aload_n (f := 0) 3 rfl dX9_addCase_137 ?_
          refine v_getR (kf := 11) (kz := 11) rfl kd_10 rfl ⟨by decide, by decide⟩ rfl wf_9_33 dX9_addCase_138 ?_
          refine v_iload (i := 7) 0 rfl dX9_addCase_141 ?_
          refine v_iload (i := 5) 2 rfl dX9_addCase_143 ?_
          refine v_iastore kd_160 g21 (by decide) dX9_addCase_145 ?_
          replace h := b_wp_l h
          obtain ⟨⟨g23, g24⟩, h⟩ := b_wp_g h
          refine v_aload_n (f := 0) 3 rfl dX9_addCase_146 ?_
          refine v_getR (kf := 12) (kz := 12) rfl kd_10 rfl ⟨by decide, by decide⟩ rfl wf_9_36 dX9_addCase_147 ?_
          refine v_iload (i := 7) 0 rfl dX9_addCase_150 ?_
          refine v_iload_n (f := 2) 4 rfl dX9_addCase_152 ?_
          refine v_iload (i := 6) 1 rfl dX9_addCase_153 ?_
          refine v_isubN g23 dX9_addCase_155 ?_
          refine v_iastore kd_161 g24 (by decide) dX9_addCase_156 ?_
          replace h := b_wp_l h
          obtain ⟨⟨g26, g27⟩, h⟩ := b_wp_g h
          refine v_aload_n (f := 0) 3 rfl dX9_addCase_157 ?_
          refine v_getR (kf := 10) (kz := 10) rfl kd_10 rfl ⟨by decide, by decide⟩ rfl wf_9_28 dX9_addCase_158 ?_
          refine v_aload_n (f := 0) 3 rfl dX9_addCase_161 ?_
          refine v_getI (kf := 9) (kz := 9) rfl kd_10 rfl ⟨by decide, by decide⟩ rfl wf_9_69 dX9_addCase_162 ?_
          refine v_dup2 rfl rfl dX9_addCase_165 ?_
          refine v_iaload kd_159 g26 (by decide) dX9_addCase_166 ?_
          refine v_iconst ⟨by decide, by decide⟩ dX9_addCase_167 ?_
          refine v_iaddN g27 dX9_addCase_168 ?_
          refine v_iastore kd_159 g26 (by decide) dX9_addCase_169 ?_
          replace h := b_wp_l h
          obtain ⟨g29, h⟩ := b_wp_g h
          refine v_iincN (ls' := [(4, bI _), (7, bI _), (6, bI _), (5, bI _), (0, bR _), (2, bI _), (3, bI _)]) 6 rfl (by decide) g29 dX9_addCase_170 rfl ?_
          refine v_goto (tgt := 65) dX9_addCase_173 (by decide) ?_
          refine v_sub (ls2 := [(0, bR _), (2, bI _), (3, bI _), (4, bI _)]) [4, 5, 6, 0] rfl ?_
          exact h
        · replace h := b_wp_f c16 h
          refine v_iconst ⟨by decide, by decide⟩ dX9_addCase_116 ?_
          refine v_zreturn rfl (Or.inl rfl) dX9_addCase_117 ⟨by decide, by decide⟩ ?_
          exact ⟨_, rfl, h⟩
theorem l_X9_addCase_a_65 {l : Launch} {E : bE} {Q : (Int × bM) → Prop} {v2 : Int} {v3 : Int} {s : Int × bM} (h : b_wp (b_loop (fun t => F_X9_addCase_a_s65 v2 v3 t.1 t.2) s) (X_X9_addCase_a_65 l E Q v2 v3)) : A_X9_addCase_a_65 l E Q v2 v3 s := b_loop_wp (fun t h => t_X9_addCase_a_s65 h) s h
noncomputable def F_X9_addCase_a_b176 (M : bM) : Option (Int × bM) :=
  some (1, M)
theorem t_X9_addCase_a_b176 {l : Launch} {E : bE} {Q : (Int × bM) → Prop} {M : bM} (h : b_wp (F_X9_addCase_a_b176 M) (Q)) : V l E xX9_addCase (0, 0) 176 [] [] M (b_pI Q) := by
  unfold F_X9_addCase_a_b176 at h
  refine v_iconst ⟨by decide, by decide⟩ dX9_addCase_176 ?_
  refine v_zreturn rfl (Or.inr rfl) dX9_addCase_177 ⟨by decide, by decide⟩ ?_
  exact ⟨_, rfl, h⟩
noncomputable def F_X9_addCase_a_b52 (v2 : Int) (v3 : Int) (M : bM) : Option (Int × bM) :=
  b_g (0 ≤ (M 10 9) ∧ (M 10 9) < 30) (b_let (b_up M 159 (M 10 9) 0) (fun M7 => b_bind (b_loop (fun t => F_X9_addCase_a_s65 v2 v3 t.1 t.2) (0, M7)) (Sum.elim (fun t => F_X9_addCase_a_b176 t) some)))
theorem t_X9_addCase_a_b52 {l : Launch} {E : bE} {Q : (Int × bM) → Prop} {v2 : Int} {v3 : Int} {M : bM} (h : b_wp (F_X9_addCase_a_b52 v2 v3 M) (Q)) : V l E xX9_addCase (0, 0) 52 [(0, bR 10), (2, bI v2), (3, bI v3)] [] M (b_pI Q) := by
  unfold F_X9_addCase_a_b52 at h
  obtain ⟨g6, h⟩ := b_wp_g h
  refine v_aload_n (f := 0) 0 rfl dX9_addCase_52 ?_
  refine v_getR (kf := 10) (kz := 10) rfl kd_10 rfl ⟨by decide, by decide⟩ rfl wf_9_28 dX9_addCase_53 ?_
  refine v_aload_n (f := 0) 0 rfl dX9_addCase_56 ?_
  refine v_getI (kf := 9) (kz := 9) rfl kd_10 rfl ⟨by decide, by decide⟩ rfl wf_9_69 dX9_addCase_57 ?_
  refine v_iconst ⟨by decide, by decide⟩ dX9_addCase_60 ?_
  refine v_iastore kd_159 g6 (by decide) dX9_addCase_61 ?_
  replace h := b_wp_l h
  refine v_iconst ⟨by decide, by decide⟩ dX9_addCase_62 ?_
  refine v_istore (i := 4) (ls' := [(4, bI _), (0, bR _), (2, bI _), (3, bI _)]) (by decide) dX9_addCase_63 rfl ?_
  refine v_sub (ls2 := [(0, bR _), (2, bI _), (3, bI _), (4, bI _)]) [1, 2, 3, 0] rfl ?_
  refine l_X9_addCase_a_65 (b_wp_m (fun t h => ?_) (b_wp_b h))
  cases t with
  | inr o => exact h
  | inl t =>
    show V l E xX9_addCase (0, 0) 176 [] [] _ (b_pI Q)
    replace h := b_wp_inl h
    exact t_X9_addCase_a_b176 h
noncomputable def F_X9_addCase_a (v1 : Nat) (M : bM) : Option (Int × bM) :=
  b_g (12 ≤ v1 ∧ v1 < 22) (b_bind (F_X0_told_a v1 1 M) (fun x2 => b_bind (F_X0_told_a v1 3 M) (fun x3 => if x3 < (M 140 0) then (some (0, M)) else (if x2 ≤ (M 140 1) then (F_X9_addCase_a_b52 x2 (M 140 2) M) else (if (M 140 2) = 0 then (some (0, M)) else (F_X9_addCase_a_b52 x2 (M 140 2) M))))))
theorem t_X9_addCase_a {l : Launch} {E : bE} {Q : (Int × bM) → Prop} {v1 : Nat} {M : bM} (h : b_wp (F_X9_addCase_a v1 M) (Q)) : V l E xX9_addCase (0, 0) 0 [(0, bR 10), (1, bR v1)] [] M (b_pI Q) := by
  unfold F_X9_addCase_a at h
  obtain ⟨g1, h⟩ := b_wp_g h
  refine v_aload_n (f := 1) 1 rfl dX9_addCase_0 ?_
  refine v_iconst ⟨by decide, by decide⟩ dX9_addCase_1 ?_
  refine v_cVIp (nA := 1) (As := [bI _]) (ix := 101) (cf_X0_told_a (b_wp_b h)) rfl (kd_act0 g1) rfl rfl wc_X0_told wm_9_101 wi_X0_told ws_X0_told wn_0 ⟨by decide, by decide, by decide⟩ rfl ⟨by decide, by decide⟩ ⟨by decide, by decide⟩ (Nat.le_of_ble_eq_true rfl) dX9_addCase_2 (fun x2 h => ?_)
  refine v_istore_n (g := 2) (i := 2) (ls' := [(2, bI _), (0, bR _), (1, bR _)]) rfl (by decide) dX9_addCase_5 rfl ?_
  refine v_aload_n (f := 0) 1 rfl dX9_addCase_6 ?_
  refine v_getR (kf := 3) (kz := 3) rfl kd_10 rfl ⟨by decide, by decide⟩ rfl wf_9_47 dX9_addCase_7 ?_
  refine v_getR (kf := 18) (kz := 18) rfl kd_7 rfl ⟨by decide, by decide⟩ rfl wf_9_104 dX9_addCase_10 ?_
  refine v_iconst ⟨by decide, by decide⟩ dX9_addCase_13 ?_
  refine v_iaload kd_140 ⟨by decide, by decide⟩ (by decide) dX9_addCase_14 ?_
  refine v_istore_n (g := 3) (i := 3) (ls' := [(3, bI _), (2, bI _), (0, bR _), (1, bR _)]) rfl (by decide) dX9_addCase_15 rfl ?_
  refine v_aload_n (f := 0) 2 rfl dX9_addCase_16 ?_
  refine v_getR (kf := 3) (kz := 3) rfl kd_10 rfl ⟨by decide, by decide⟩ rfl wf_9_47 dX9_addCase_17 ?_
  refine v_getR (kf := 18) (kz := 18) rfl kd_7 rfl ⟨by decide, by decide⟩ rfl wf_9_104 dX9_addCase_20 ?_
  refine v_iconst ⟨by decide, by decide⟩ dX9_addCase_23 ?_
  refine v_iaload kd_140 ⟨by decide, by decide⟩ (by decide) dX9_addCase_24 ?_
  refine v_aload_n (f := 1) 3 rfl dX9_addCase_25 ?_
  refine v_iconst ⟨by decide, by decide⟩ dX9_addCase_26 ?_
  refine v_cVIp (nA := 1) (As := [bI _]) (ix := 101) (cf_X0_told_a (b_wp_b h)) rfl (kd_act0 g1) rfl rfl wc_X0_told wm_9_101 wi_X0_told ws_X0_told wn_0 ⟨by decide, by decide, by decide⟩ rfl ⟨by decide, by decide⟩ ⟨by decide, by decide⟩ (Nat.le_of_ble_eq_true rfl) dX9_addCase_27 (fun x3 h => ?_)
  refine v_icmp_gt (tgt := 50) dX9_addCase_30 (by decide) (fun c4 => ?_) (fun c4 => ?_)
  · replace h := b_wp_t c4 h
    refine v_iconst ⟨by decide, by decide⟩ dX9_addCase_50 ?_
    refine v_zreturn rfl (Or.inl rfl) dX9_addCase_51 ⟨by decide, by decide⟩ ?_
    exact ⟨_, rfl, h⟩
  · replace h := b_wp_f c4 h
    refine v_aload_n (f := 0) 2 rfl dX9_addCase_33 ?_
    refine v_getR (kf := 3) (kz := 3) rfl kd_10 rfl ⟨by decide, by decide⟩ rfl wf_9_47 dX9_addCase_34 ?_
    refine v_getR (kf := 18) (kz := 18) rfl kd_7 rfl ⟨by decide, by decide⟩ rfl wf_9_104 dX9_addCase_37 ?_
    refine v_iconst ⟨by decide, by decide⟩ dX9_addCase_40 ?_
    refine v_iaload kd_140 ⟨by decide, by decide⟩ (by decide) dX9_addCase_41 ?_
    refine v_iload_n (f := 2) 1 rfl dX9_addCase_42 ?_
    refine v_icmp_ge (tgt := 52) dX9_addCase_43 (by decide) (fun c5 => ?_) (fun c5 => ?_)
    · replace h := b_wp_t c5 h
      refine v_sub (ls2 := [(0, bR _), (2, bI _), (3, bI _)]) [2, 1, 0] rfl ?_
      exact t_X9_addCase_a_b52 h
    · replace h := b_wp_f c5 h
      refine v_iload_n (f := 3) 0 rfl dX9_addCase_46 ?_
      refine v_if_ne (tgt := 52) dX9_addCase_47 (by decide) (fun c30 => ?_) (fun c30 => ?_)
      · replace h := b_wp_f c30 h
        refine v_sub (ls2 := [(0, bR _), (2, bI _), (3, bI _)]) [2, 1, 0] rfl ?_
        exact t_X9_addCase_a_b52 h
      · replace h := b_wp_t c30 h
        refine v_iconst ⟨by decide, by decide⟩ dX9_addCase_50 ?_
        refine v_zreturn rfl (Or.inl rfl) dX9_addCase_51 ⟨by decide, by decide⟩ ?_
        exact ⟨_, rfl, h⟩
theorem cf_X9_addCase_a {l : Launch} {E : bE} {M : bM} {v1 : Nat} {Q : (Int × bM) → Prop} (h : b_wp (F_X9_addCase_a v1 M) Q) : b_C l E xX9_addCase yX9_addCase [bR 10, bR v1] M (b_pI Q) := b_met (by decide) ⟨rfl, rfl⟩ (Nat.le_of_ble_eq_true rfl) (fun _ _ => t_X9_addCase_a h)
abbrev xX9_gather : bX := ("BurntHall$Places", prog_11_method_4_code, 4, (Option.none : Option Jvm.ClassFile.FieldType), b_rm 6 0 0, 0, "gather")
abbrev yX9_gather : MethodName := ⟨"BurntHall$Places", "gather", "(I)V"⟩
theorem dX9_gather_0 : decode prog_11_method_4_code 0 = .ok (.aload_n 0, 1) := by decide +kernel
theorem dX9_gather_1 : decode prog_11_method_4_code 1 = .ok (.iconst 0, 1) := by decide +kernel
theorem dX9_gather_2 : decode prog_11_method_4_code 2 = .ok (.putfield 69, 3) := by decide +kernel
theorem dX9_gather_5 : decode prog_11_method_4_code 5 = .ok (.iconst 0, 1) := by decide +kernel
theorem dX9_gather_6 : decode prog_11_method_4_code 6 = .ok (.istore_n 2, 1) := by decide +kernel
theorem dX9_gather_7 : decode prog_11_method_4_code 7 = .ok (.iload_n 2, 1) := by decide +kernel
theorem dX9_gather_8 : decode prog_11_method_4_code 8 = .ok (.bipush 60, 2) := by decide +kernel
theorem dX9_gather_10 : decode prog_11_method_4_code 10 = .ok (.if_icmp .ge 85, 3) := by decide +kernel
theorem dX9_gather_13 : decode prog_11_method_4_code 13 = .ok (.aload_n 0, 1) := by decide +kernel
theorem dX9_gather_14 : decode prog_11_method_4_code 14 = .ok (.getfield 69, 3) := by decide +kernel
theorem dX9_gather_17 : decode prog_11_method_4_code 17 = .ok (.bipush 30, 2) := by decide +kernel
theorem dX9_gather_19 : decode prog_11_method_4_code 19 = .ok (.if_icmp .ge 76, 3) := by decide +kernel
theorem dX9_gather_22 : decode prog_11_method_4_code 22 = .ok (.aload_n 0, 1) := by decide +kernel
theorem dX9_gather_23 : decode prog_11_method_4_code 23 = .ok (.getfield 51, 3) := by decide +kernel
theorem dX9_gather_26 : decode prog_11_method_4_code 26 = .ok (.iload_n 2, 1) := by decide +kernel
theorem dX9_gather_27 : decode prog_11_method_4_code 27 = .ok (.iload_n 1, 1) := by decide +kernel
theorem dX9_gather_28 : decode prog_11_method_4_code 28 = .ok (.invokevirtual 74, 3) := by decide +kernel
theorem dX9_gather_31 : decode prog_11_method_4_code 31 = .ok (.ifCond .eq 58, 3) := by decide +kernel
theorem dX9_gather_34 : decode prog_11_method_4_code 34 = .ok (.aload_n 0, 1) := by decide +kernel
theorem dX9_gather_35 : decode prog_11_method_4_code 35 = .ok (.getfield 51, 3) := by decide +kernel
theorem dX9_gather_38 : decode prog_11_method_4_code 38 = .ok (.getfield 78, 3) := by decide +kernel
theorem dX9_gather_41 : decode prog_11_method_4_code 41 = .ok (.aload_n 0, 1) := by decide +kernel
theorem dX9_gather_42 : decode prog_11_method_4_code 42 = .ok (.getfield 51, 3) := by decide +kernel
theorem dX9_gather_45 : decode prog_11_method_4_code 45 = .ok (.iload_n 2, 1) := by decide +kernel
theorem dX9_gather_46 : decode prog_11_method_4_code 46 = .ok (.invokevirtual 81, 3) := by decide +kernel
theorem dX9_gather_49 : decode prog_11_method_4_code 49 = .ok (.iaload, 1) := by decide +kernel
theorem dX9_gather_50 : decode prog_11_method_4_code 50 = .ok (.istore_n 3, 1) := by decide +kernel
theorem dX9_gather_51 : decode prog_11_method_4_code 51 = .ok (.aload_n 0, 1) := by decide +kernel
theorem dX9_gather_52 : decode prog_11_method_4_code 52 = .ok (.getfield 47, 3) := by decide +kernel
theorem dX9_gather_55 : decode prog_11_method_4_code 55 = .ok (.iload_n 2, 1) := by decide +kernel
theorem dX9_gather_56 : decode prog_11_method_4_code 56 = .ok (.iload_n 3, 1) := by decide +kernel
theorem dX9_gather_57 : decode prog_11_method_4_code 57 = .ok (.invokevirtual 85, 3) := by decide +kernel
theorem dX9_gather_60 : decode prog_11_method_4_code 60 = .ok (.iconst (-1), 1) := by decide +kernel
theorem dX9_gather_61 : decode prog_11_method_4_code 61 = .ok (.if_icmp .eq 28, 3) := by decide +kernel
theorem dX9_gather_64 : decode prog_11_method_4_code 64 = .ok (.aload_n 0, 1) := by decide +kernel
theorem dX9_gather_65 : decode prog_11_method_4_code 65 = .ok (.aload_n 0, 1) := by decide +kernel
theorem dX9_gather_66 : decode prog_11_method_4_code 66 = .ok (.getfield 39, 3) := by decide +kernel
theorem dX9_gather_69 : decode prog_11_method_4_code 69 = .ok (.iload_n 1, 1) := by decide +kernel
theorem dX9_gather_70 : decode prog_11_method_4_code 70 = .ok (.invokevirtual 89, 3) := by decide +kernel
theorem dX9_gather_73 : decode prog_11_method_4_code 73 = .ok (.invokevirtual 95, 3) := by decide +kernel
theorem dX9_gather_76 : decode prog_11_method_4_code 76 = .ok (.ifCond .eq 13, 3) := by decide +kernel
theorem dX9_gather_79 : decode prog_11_method_4_code 79 = .ok (.aload_n 0, 1) := by decide +kernel
theorem dX9_gather_80 : decode prog_11_method_4_code 80 = .ok (.dup, 1) := by decide +kernel
theorem dX9_gather_81 : decode prog_11_method_4_code 81 = .ok (.getfield 69, 3) := by decide +kernel
theorem dX9_gather_84 : decode prog_11_method_4_code 84 = .ok (.iconst 1, 1) := by decide +kernel
theorem dX9_gather_85 : decode prog_11_method_4_code 85 = .ok (.iadd, 1) := by decide +kernel
theorem dX9_gather_86 : decode prog_11_method_4_code 86 = .ok (.putfield 69, 3) := by decide +kernel
theorem dX9_gather_89 : decode prog_11_method_4_code 89 = .ok (.iinc 2 1, 3) := by decide +kernel
theorem dX9_gather_92 : decode prog_11_method_4_code 92 = .ok (.goto (-85), 3) := by decide +kernel
theorem dX9_gather_95 : decode prog_11_method_4_code 95 = .ok (.return_, 1) := by decide +kernel
abbrev A_X9_gather_7 (l : Launch) (E : bE) (Q : bM → Prop) (v1 : Int) : (Int × bM) → Prop := (fun t : Int × bM => V l E xX9_gather (0, 0) 7 [(0, bR 10), (1, bI v1), (2, bI (t.1))] [] t.2 (b_pV Q))
abbrev X_X9_gather_7 (l : Launch) (E : bE) (Q : bM → Prop) (v1 : Int) : (bM) → Prop := (fun t : bM => V l E xX9_gather (0, 0) 95 [] [] t (b_pV Q))
noncomputable def F_X9_gather_s7 (v1 : Int) (v2 : Int) (M : bM) : Option ((Int × bM) ⊕ (bM)) :=
  if 60 ≤ v2 then (some (.inr (M))) else (if 30 ≤ (M 10 9) then (some (.inr (M))) else (b_bind (F_X3_isDoubtful v2 v1 M) (fun x4 => if x4 = 0 then (b_g (b_i32 (v2 + 1)) (some (.inl ((v2 + 1), M)))) else (b_bind (F_X3_winnerOf v2 M) (fun x7 => b_g (0 ≤ x7 ∧ x7 < 30) (b_let ((M 147 x7)) (fun y9 => b_bind (F_X2_search v2 y9 M) (fun t => b_two t (fun x10 M11 => if x10 = (-1) then (b_g (b_i32 (v2 + 1)) (some (.inl ((v2 + 1), M11)))) else (b_bind (F_X1_inForce v1 M11) (fun x14 => b_bind (F_X9_addCase_a x14 M11) (fun t => b_two t (fun x15 M16 => if x15 = 0 then (b_g (b_i32 (v2 + 1)) (some (.inl ((v2 + 1), M16)))) else (b_g (b_i32 ((M16 10 9) + 1)) (b_let (b_up M16 10 9 ((M16 10 9) + 1)) (fun M20 => b_g (b_i32 (v2 + 1)) (some (.inl ((v2 + 1), M20)))))))))))))))))))
theorem t_X9_gather_s7 {l : Launch} {E : bE} {Q : bM → Prop} {v1 : Int} {v2 : Int} {M : bM} (h : b_wp (F_X9_gather_s7 v1 v2 M) (Sum.elim (A_X9_gather_7 l E Q v1) (X_X9_gather_7 l E Q v1))) : V l E xX9_gather (0, 0) 7 [(0, bR 10), (1, bI v1), (2, bI v2)] [] M (b_pV Q) := by
  unfold F_X9_gather_s7 at h
  refine v_iload_n (f := 2) 2 rfl dX9_gather_7 ?_
  refine v_bipush ⟨by decide, by decide⟩ (by decide) dX9_gather_8 ?_
  refine v_icmp_ge (tgt := 95) dX9_gather_10 (by decide) (fun c2 => ?_) (fun c2 => ?_)
  · replace h := b_wp_t c2 h
    refine v_sub (ls2 := []) [] rfl ?_
    exact h
  · replace h := b_wp_f c2 h
    refine v_aload_n (f := 0) 0 rfl dX9_gather_13 ?_
    refine v_getI (kf := 9) (kz := 9) rfl kd_10 rfl ⟨by decide, by decide⟩ rfl wf_9_69 dX9_gather_14 ?_
    refine v_bipush ⟨by decide, by decide⟩ (by decide) dX9_gather_17 ?_
    refine v_icmp_ge (tgt := 95) dX9_gather_19 (by decide) (fun c3 => ?_) (fun c3 => ?_)
    · replace h := b_wp_t c3 h
      refine v_sub (ls2 := []) [] rfl ?_
      exact h
    · replace h := b_wp_f c3 h
      refine v_aload_n (f := 0) 0 rfl dX9_gather_22 ?_
      refine v_getR (kf := 4) (kz := 4) rfl kd_10 rfl ⟨by decide, by decide⟩ rfl wf_9_51 dX9_gather_23 ?_
      refine v_iload_n (f := 2) 2 rfl dX9_gather_26 ?_
      refine v_iload_n (f := 1) 1 rfl dX9_gather_27 ?_
      refine v_cVIp (nA := 2) (As := [bI _, bI _]) (ix := 74) (cf_X3_isDoubtful (b_wp_b h)) rfl kd_9 rfl rfl wc_X3_isDoubtful wm_9_74 wi_X3_isDoubtful ws_X3_isDoubtful wn_3 ⟨by decide, by decide, by decide⟩ rfl ⟨by decide, by decide⟩ ⟨by decide, by decide⟩ (Nat.le_of_ble_eq_true rfl) dX9_gather_28 (fun x4 h => ?_)
      refine v_if_eq (tgt := 89) dX9_gather_31 (by decide) (fun c5 => ?_) (fun c5 => ?_)
      · replace h := b_wp_t c5 h
        obtain ⟨g6, h⟩ := b_wp_g h
        refine v_iincN (ls' := [(2, bI _), (0, bR _), (1, bI _)]) 2 rfl (by decide) g6 dX9_gather_89 rfl ?_
        refine v_goto (tgt := 7) dX9_gather_92 (by decide) ?_
        refine v_sub (ls2 := [(0, bR _), (1, bI _), (2, bI _)]) [1, 2, 0] rfl ?_
        exact h
      · replace h := b_wp_f c5 h
        refine v_aload_n (f := 0) 0 rfl dX9_gather_34 ?_
        refine v_getR (kf := 4) (kz := 4) rfl kd_10 rfl ⟨by decide, by decide⟩ rfl wf_9_51 dX9_gather_35 ?_
        refine v_getR (kf := 5) (kz := 5) rfl kd_9 rfl ⟨by decide, by decide⟩ rfl wf_9_78 dX9_gather_38 ?_
        refine v_aload_n (f := 0) 0 rfl dX9_gather_41 ?_
        refine v_getR (kf := 4) (kz := 4) rfl kd_10 rfl ⟨by decide, by decide⟩ rfl wf_9_51 dX9_gather_42 ?_
        refine v_iload_n (f := 2) 2 rfl dX9_gather_45 ?_
        refine v_cVIp (nA := 1) (As := [bI _]) (ix := 81) (cf_X3_winnerOf (b_wp_b h)) rfl kd_9 rfl rfl wc_X3_winnerOf wm_9_81 wi_X3_winnerOf ws_X3_winnerOf wn_3 ⟨by decide, by decide, by decide⟩ rfl ⟨by decide, by decide⟩ ⟨by decide, by decide⟩ (Nat.le_of_ble_eq_true rfl) dX9_gather_46 (fun x7 h => ?_)
        obtain ⟨g8, h⟩ := b_wp_g h
        refine v_iaload kd_147 g8 (by decide) dX9_gather_49 ?_
        replace h := b_wp_l h
        refine v_istore_n (g := 3) (i := 3) (ls' := [(3, bI _), (0, bR _), (1, bI _), (2, bI _)]) rfl (by decide) dX9_gather_50 rfl ?_
        refine v_aload_n (f := 0) 1 rfl dX9_gather_51 ?_
        refine v_getR (kf := 3) (kz := 3) rfl kd_10 rfl ⟨by decide, by decide⟩ rfl wf_9_47 dX9_gather_52 ?_
        refine v_iload_n (f := 2) 3 rfl dX9_gather_55 ?_
        refine v_iload_n (f := 3) 0 rfl dX9_gather_56 ?_
        refine v_cVI (nA := 2) (As := [bI _, bI _]) (ix := 85) (cf_X2_search (b_wp_b h)) rfl kd_7 rfl rfl wc_X2_search wm_9_85 wi_X2_search ws_X2_search wn_2 ⟨by decide, by decide, by decide⟩ rfl ⟨by decide, by decide⟩ ⟨by decide, by decide⟩ (Nat.le_of_ble_eq_true rfl) dX9_gather_57 (fun x10 M11 h => ?_)
        replace h := b_wp_two h
        refine v_iconst ⟨by decide, by decide⟩ dX9_gather_60 ?_
        refine v_icmp_eq (tgt := 89) dX9_gather_61 (by decide) (fun c12 => ?_) (fun c12 => ?_)
        · replace h := b_wp_t c12 h
          obtain ⟨g13, h⟩ := b_wp_g h
          refine v_iincN (ls' := [(2, bI _), (3, bI _), (0, bR _), (1, bI _)]) 3 rfl (by decide) g13 dX9_gather_89 rfl ?_
          refine v_goto (tgt := 7) dX9_gather_92 (by decide) ?_
          refine v_sub (ls2 := [(0, bR _), (1, bI _), (2, bI _)]) [2, 3, 0] rfl ?_
          exact h
        · replace h := b_wp_f c12 h
          refine v_aload_n (f := 0) 1 rfl dX9_gather_64 ?_
          refine v_aload_n (f := 0) 1 rfl dX9_gather_65 ?_
          refine v_getR (kf := 1) (kz := 1) rfl kd_10 rfl ⟨by decide, by decide⟩ rfl wf_9_39 dX9_gather_66 ?_
          refine v_iload_n (f := 1) 2 rfl dX9_gather_69 ?_
          refine v_cVAp (nA := 1) (As := [bI _]) (ix := 89) (cf_X1_inForce (b_wp_b h)) rfl kd_4 rfl rfl wc_X1_inForce wm_9_89 wi_X1_inForce ws_X1_inForce wn_1 ⟨by decide, by decide, by decide⟩ rfl ⟨by decide, by decide⟩ ⟨by decide, by decide⟩ (Nat.le_of_ble_eq_true rfl) dX9_gather_70 (fun x14 h => ?_)
          refine v_cVI (nA := 1) (As := [bR _]) (ix := 95) (cf_X9_addCase_a (b_wp_b h)) rfl kd_10 rfl rfl wc_X9_addCase wm_9_95 wi_X9_addCase ws_X9_addCase wn_9 ⟨by decide, by decide, by decide⟩ rfl ⟨by decide, by decide⟩ ⟨by decide, by decide⟩ (Nat.le_of_ble_eq_true rfl) dX9_gather_73 (fun x15 M16 h => ?_)
          replace h := b_wp_two h
          refine v_if_eq (tgt := 89) dX9_gather_76 (by decide) (fun c17 => ?_) (fun c17 => ?_)
          · replace h := b_wp_t c17 h
            obtain ⟨g18, h⟩ := b_wp_g h
            refine v_iincN (ls' := [(2, bI _), (3, bI _), (0, bR _), (1, bI _)]) 3 rfl (by decide) g18 dX9_gather_89 rfl ?_
            refine v_goto (tgt := 7) dX9_gather_92 (by decide) ?_
            refine v_sub (ls2 := [(0, bR _), (1, bI _), (2, bI _)]) [2, 3, 0] rfl ?_
            exact h
          · replace h := b_wp_f c17 h
            obtain ⟨g19, h⟩ := b_wp_g h
            refine v_aload_n (f := 0) 1 rfl dX9_gather_79 ?_
            refine v_dup rfl dX9_gather_80 ?_
            refine v_getI (kf := 9) (kz := 9) rfl kd_10 rfl ⟨by decide, by decide⟩ rfl wf_9_69 dX9_gather_81 ?_
            refine v_iconst ⟨by decide, by decide⟩ dX9_gather_84 ?_
            refine v_iaddN g19 dX9_gather_85 ?_
            refine v_putI (kf := 9) (kz := 9) rfl kd_10 rfl ⟨by decide, by decide⟩ rfl wf_9_69 rfl rfl dX9_gather_86 ?_
            replace h := b_wp_l h
            obtain ⟨g21, h⟩ := b_wp_g h
            refine v_iincN (ls' := [(2, bI _), (3, bI _), (0, bR _), (1, bI _)]) 3 rfl (by decide) g21 dX9_gather_89 rfl ?_
            refine v_goto (tgt := 7) dX9_gather_92 (by decide) ?_
            refine v_sub (ls2 := [(0, bR _), (1, bI _), (2, bI _)]) [2, 3, 0] rfl ?_
            exact h
theorem l_X9_gather_7 {l : Launch} {E : bE} {Q : bM → Prop} {v1 : Int} {s : Int × bM} (h : b_wp (b_loop (fun t => F_X9_gather_s7 v1 t.1 t.2) s) (X_X9_gather_7 l E Q v1)) : A_X9_gather_7 l E Q v1 s := b_loop_wp (fun t h => t_X9_gather_s7 h) s h
noncomputable def F_X9_gather_b95 (M : bM) : Option (bM) :=
  some M
theorem t_X9_gather_b95 {l : Launch} {E : bE} {Q : bM → Prop} {M : bM} (h : b_wp (F_X9_gather_b95 M) (Q)) : V l E xX9_gather (0, 0) 95 [] [] M (b_pV Q) := by
  unfold F_X9_gather_b95 at h
  refine v_return rfl dX9_gather_95 ⟨by decide, by decide⟩ ?_
  exact ⟨rfl, h⟩
noncomputable def F_X9_gather (v1 : Int) (M : bM) : Option (bM) :=
  b_let (b_up M 10 9 0) (fun M1 => b_bind (b_loop (fun t => F_X9_gather_s7 v1 t.1 t.2) (0, M1)) (fun t => F_X9_gather_b95 t))
theorem t_X9_gather {l : Launch} {E : bE} {Q : bM → Prop} {v1 : Int} {M : bM} (h : b_wp (F_X9_gather v1 M) (Q)) : V l E xX9_gather (0, 0) 0 [(0, bR 10), (1, bI v1)] [] M (b_pV Q) := by
  unfold F_X9_gather at h
  refine v_aload_n (f := 0) 0 rfl dX9_gather_0 ?_
  refine v_iconst ⟨by decide, by decide⟩ dX9_gather_1 ?_
  refine v_putI (kf := 9) (kz := 9) rfl kd_10 rfl ⟨by decide, by decide⟩ rfl wf_9_69 rfl rfl dX9_gather_2 ?_
  replace h := b_wp_l h
  refine v_iconst ⟨by decide, by decide⟩ dX9_gather_5 ?_
  refine v_istore_n (g := 2) (i := 2) (ls' := [(2, bI _), (0, bR _), (1, bI _)]) rfl (by decide) dX9_gather_6 rfl ?_
  refine v_sub (ls2 := [(0, bR _), (1, bI _), (2, bI _)]) [1, 2, 0] rfl ?_
  refine l_X9_gather_7 (b_wp_m (fun t h => ?_) (b_wp_b h))
  show V l E xX9_gather (0, 0) 95 [] [] _ (b_pV Q)
  exact t_X9_gather_b95 h
theorem cf_X9_gather {l : Launch} {E : bE} {M : bM} {v1 : Int} {Q : bM → Prop} (h : b_wp (F_X9_gather v1 M) Q) : b_C l E xX9_gather yX9_gather [bR 10, bI v1] M (b_pV Q) := b_met (by decide) ⟨rfl, rfl⟩ (Nat.le_of_ble_eq_true rfl) (fun _ _ => t_X9_gather h)
abbrev xJ7_fill_53178 : bX := ("java/util/Arrays", prog_21_method_103_code, 4, (Option.none : Option Jvm.ClassFile.FieldType), b_rm 1 0 0, 0, "fill")
abbrev yJ7_fill_53178 : MethodName := ⟨"java/util/Arrays", "fill", "([II)V"⟩
theorem dJ7_fill_53178_0 : decode prog_21_method_103_code 0 = .ok (.iconst 0, 1) := by decide +kernel
theorem dJ7_fill_53178_1 : decode prog_21_method_103_code 1 = .ok (.istore_n 2, 1) := by decide +kernel
theorem dJ7_fill_53178_2 : decode prog_21_method_103_code 2 = .ok (.aload_n 0, 1) := by decide +kernel
theorem dJ7_fill_53178_3 : decode prog_21_method_103_code 3 = .ok (.arraylength, 1) := by decide +kernel
theorem dJ7_fill_53178_4 : decode prog_21_method_103_code 4 = .ok (.istore_n 3, 1) := by decide +kernel
theorem dJ7_fill_53178_5 : decode prog_21_method_103_code 5 = .ok (.iload_n 2, 1) := by decide +kernel
theorem dJ7_fill_53178_6 : decode prog_21_method_103_code 6 = .ok (.iload_n 3, 1) := by decide +kernel
theorem dJ7_fill_53178_7 : decode prog_21_method_103_code 7 = .ok (.if_icmp .ge 13, 3) := by decide +kernel
theorem dJ7_fill_53178_10 : decode prog_21_method_103_code 10 = .ok (.aload_n 0, 1) := by decide +kernel
theorem dJ7_fill_53178_11 : decode prog_21_method_103_code 11 = .ok (.iload_n 2, 1) := by decide +kernel
theorem dJ7_fill_53178_12 : decode prog_21_method_103_code 12 = .ok (.iload_n 1, 1) := by decide +kernel
theorem dJ7_fill_53178_13 : decode prog_21_method_103_code 13 = .ok (.iastore, 1) := by decide +kernel
theorem dJ7_fill_53178_14 : decode prog_21_method_103_code 14 = .ok (.iinc 2 1, 3) := by decide +kernel
theorem dJ7_fill_53178_17 : decode prog_21_method_103_code 17 = .ok (.goto (-12), 3) := by decide +kernel
theorem dJ7_fill_53178_20 : decode prog_21_method_103_code 20 = .ok (.return_, 1) := by decide +kernel
abbrev A_J7_fill_53178_158_5 (l : Launch) (E : bE) (Q : bM → Prop) (v1 : Int) (v3 : Int) : (Int × bM) → Prop := (fun t : Int × bM => V l E xJ7_fill_53178 (0, 0) 5 [(0, bR 158), (1, bI v1), (2, bI (t.1)), (3, bI v3)] [] t.2 (b_pV Q))
abbrev X_J7_fill_53178_158_5 (l : Launch) (E : bE) (Q : bM → Prop) (v1 : Int) (v3 : Int) : (bM) → Prop := (fun t : bM => V l E xJ7_fill_53178 (0, 0) 20 [] [] t (b_pV Q))
noncomputable def F_J7_fill_53178_158_s5 (v1 : Int) (v2 : Int) (v3 : Int) (M : bM) : Option ((Int × bM) ⊕ (bM)) :=
  if v3 ≤ v2 then (some (.inr (M))) else (b_g (0 ≤ v2 ∧ v2 < 30) (b_let (b_up M 158 v2 v1) (fun M3 => b_g (b_i32 (v2 + 1)) (some (.inl ((v2 + 1), M3))))))
theorem t_J7_fill_53178_158_s5 {l : Launch} {E : bE} {Q : bM → Prop} {v1 : Int} {v2 : Int} {v3 : Int} {M : bM} (h : b_wp (F_J7_fill_53178_158_s5 v1 v2 v3 M) (Sum.elim (A_J7_fill_53178_158_5 l E Q v1 v3) (X_J7_fill_53178_158_5 l E Q v1 v3))) : V l E xJ7_fill_53178 (0, 0) 5 [(0, bR 158), (1, bI v1), (2, bI v2), (3, bI v3)] [] M (b_pV Q) := by
  unfold F_J7_fill_53178_158_s5 at h
  refine v_iload_n (f := 2) 2 rfl dJ7_fill_53178_5 ?_
  refine v_iload_n (f := 3) 3 rfl dJ7_fill_53178_6 ?_
  refine v_icmp_ge (tgt := 20) dJ7_fill_53178_7 (by decide) (fun c1 => ?_) (fun c1 => ?_)
  · replace h := b_wp_t c1 h
    refine v_sub (ls2 := []) [] rfl ?_
    exact h
  · replace h := b_wp_f c1 h
    obtain ⟨g2, h⟩ := b_wp_g h
    refine v_aload_n (f := 0) 0 rfl dJ7_fill_53178_10 ?_
    refine v_iload_n (f := 2) 2 rfl dJ7_fill_53178_11 ?_
    refine v_iload_n (f := 1) 1 rfl dJ7_fill_53178_12 ?_
    refine v_iastore kd_158 g2 (by decide) dJ7_fill_53178_13 ?_
    replace h := b_wp_l h
    obtain ⟨g4, h⟩ := b_wp_g h
    refine v_iincN (ls' := [(2, bI _), (0, bR _), (1, bI _), (3, bI _)]) 2 rfl (by decide) g4 dJ7_fill_53178_14 rfl ?_
    refine v_goto (tgt := 5) dJ7_fill_53178_17 (by decide) ?_
    refine v_sub (ls2 := [(0, bR _), (1, bI _), (2, bI _), (3, bI _)]) [1, 2, 0, 3] rfl ?_
    exact h
theorem l_J7_fill_53178_158_5 {l : Launch} {E : bE} {Q : bM → Prop} {v1 : Int} {v3 : Int} {s : Int × bM} (h : b_wp (b_loop (fun t => F_J7_fill_53178_158_s5 v1 t.1 v3 t.2) s) (X_J7_fill_53178_158_5 l E Q v1 v3)) : A_J7_fill_53178_158_5 l E Q v1 v3 s := b_loop_wp (fun t h => t_J7_fill_53178_158_s5 h) s h
noncomputable def F_J7_fill_53178_158_b20 (M : bM) : Option (bM) :=
  some M
theorem t_J7_fill_53178_158_b20 {l : Launch} {E : bE} {Q : bM → Prop} {M : bM} (h : b_wp (F_J7_fill_53178_158_b20 M) (Q)) : V l E xJ7_fill_53178 (0, 0) 20 [] [] M (b_pV Q) := by
  unfold F_J7_fill_53178_158_b20 at h
  refine v_return rfl dJ7_fill_53178_20 ⟨by decide, by decide⟩ ?_
  exact ⟨rfl, h⟩
noncomputable def F_J7_fill_53178_158 (v1 : Int) (M : bM) : Option (bM) :=
  b_bind (b_loop (fun t => F_J7_fill_53178_158_s5 v1 t.1 30 t.2) (0, M)) (fun t => F_J7_fill_53178_158_b20 t)
theorem t_J7_fill_53178_158 {l : Launch} {E : bE} {Q : bM → Prop} {v1 : Int} {M : bM} (h : b_wp (F_J7_fill_53178_158 v1 M) (Q)) : V l E xJ7_fill_53178 (0, 0) 0 [(0, bR 158), (1, bI v1)] [] M (b_pV Q) := by
  unfold F_J7_fill_53178_158 at h
  refine v_iconst ⟨by decide, by decide⟩ dJ7_fill_53178_0 ?_
  refine v_istore_n (g := 2) (i := 2) (ls' := [(2, bI _), (0, bR _), (1, bI _)]) rfl (by decide) dJ7_fill_53178_1 rfl ?_
  refine v_aload_n (f := 0) 1 rfl dJ7_fill_53178_2 ?_
  refine v_alen1 kd_158 (by decide) dJ7_fill_53178_3 ?_
  refine v_istore_n (g := 3) (i := 3) (ls' := [(3, bI _), (2, bI _), (0, bR _), (1, bI _)]) rfl (by decide) dJ7_fill_53178_4 rfl ?_
  refine v_sub (ls2 := [(0, bR _), (1, bI _), (2, bI _), (3, bI _)]) [2, 3, 1, 0] rfl ?_
  refine l_J7_fill_53178_158_5 (b_wp_m (fun t h => ?_) (b_wp_b h))
  show V l E xJ7_fill_53178 (0, 0) 20 [] [] _ (b_pV Q)
  exact t_J7_fill_53178_158_b20 h
theorem cf_J7_fill_53178_158 {l : Launch} {E : bE} {M : bM} {v1 : Int} {Q : bM → Prop} (h : b_wp (F_J7_fill_53178_158 v1 M) Q) : b_C l E xJ7_fill_53178 yJ7_fill_53178 [bR 158, bI v1] M (b_pV Q) := b_met (by decide) ⟨rfl, rfl⟩ (Nat.le_of_ble_eq_true rfl) (fun _ _ => t_J7_fill_53178_158 h)
abbrev xX9_settled : bX := ("BurntHall$Places", prog_11_method_6_code, 6, (Option.some Jvm.ClassFile.FieldType.int), b_rm 1 0 0, 0, "settled")
abbrev yX9_settled : MethodName := ⟨"BurntHall$Places", "settled", "()I"⟩
theorem dX9_settled_0 : decode prog_11_method_6_code 0 = .ok (.iconst 0, 1) := by decide +kernel
theorem dX9_settled_1 : decode prog_11_method_6_code 1 = .ok (.istore_n 1, 1) := by decide +kernel
theorem dX9_settled_2 : decode prog_11_method_6_code 2 = .ok (.iconst 0, 1) := by decide +kernel
theorem dX9_settled_3 : decode prog_11_method_6_code 3 = .ok (.istore_n 2, 1) := by decide +kernel
theorem dX9_settled_4 : decode prog_11_method_6_code 4 = .ok (.iload_n 2, 1) := by decide +kernel
theorem dX9_settled_5 : decode prog_11_method_6_code 5 = .ok (.aload_n 0, 1) := by decide +kernel
theorem dX9_settled_6 : decode prog_11_method_6_code 6 = .ok (.getfield 69, 3) := by decide +kernel
theorem dX9_settled_9 : decode prog_11_method_6_code 9 = .ok (.if_icmp .ge 84, 3) := by decide +kernel
theorem dX9_settled_12 : decode prog_11_method_6_code 12 = .ok (.iconst 1, 1) := by decide +kernel
theorem dX9_settled_13 : decode prog_11_method_6_code 13 = .ok (.istore_n 3, 1) := by decide +kernel
theorem dX9_settled_14 : decode prog_11_method_6_code 14 = .ok (.iconst 0, 1) := by decide +kernel
theorem dX9_settled_15 : decode prog_11_method_6_code 15 = .ok (.istore 4, 2) := by decide +kernel
theorem dX9_settled_17 : decode prog_11_method_6_code 17 = .ok (.iload 4, 2) := by decide +kernel
theorem dX9_settled_19 : decode prog_11_method_6_code 19 = .ok (.aload_n 0, 1) := by decide +kernel
theorem dX9_settled_20 : decode prog_11_method_6_code 20 = .ok (.getfield 28, 3) := by decide +kernel
theorem dX9_settled_23 : decode prog_11_method_6_code 23 = .ok (.iload_n 2, 1) := by decide +kernel
theorem dX9_settled_24 : decode prog_11_method_6_code 24 = .ok (.iaload, 1) := by decide +kernel
theorem dX9_settled_25 : decode prog_11_method_6_code 25 = .ok (.if_icmp .ge 50, 3) := by decide +kernel
theorem dX9_settled_28 : decode prog_11_method_6_code 28 = .ok (.iload_n 3, 1) := by decide +kernel
theorem dX9_settled_29 : decode prog_11_method_6_code 29 = .ok (.ifCond .eq 46, 3) := by decide +kernel
theorem dX9_settled_32 : decode prog_11_method_6_code 32 = .ok (.iload_n 2, 1) := by decide +kernel
theorem dX9_settled_33 : decode prog_11_method_6_code 33 = .ok (.bipush 8, 2) := by decide +kernel
theorem dX9_settled_35 : decode prog_11_method_6_code 35 = .ok (.imul, 1) := by decide +kernel
theorem dX9_settled_36 : decode prog_11_method_6_code 36 = .ok (.iload 4, 2) := by decide +kernel
theorem dX9_settled_38 : decode prog_11_method_6_code 38 = .ok (.iadd, 1) := by decide +kernel
theorem dX9_settled_39 : decode prog_11_method_6_code 39 = .ok (.istore 5, 2) := by decide +kernel
theorem dX9_settled_41 : decode prog_11_method_6_code 41 = .ok (.aload_n 0, 1) := by decide +kernel
theorem dX9_settled_42 : decode prog_11_method_6_code 42 = .ok (.getfield 23, 3) := by decide +kernel
theorem dX9_settled_45 : decode prog_11_method_6_code 45 = .ok (.aload_n 0, 1) := by decide +kernel
theorem dX9_settled_46 : decode prog_11_method_6_code 46 = .ok (.getfield 33, 3) := by decide +kernel
theorem dX9_settled_49 : decode prog_11_method_6_code 49 = .ok (.iload 5, 2) := by decide +kernel
theorem dX9_settled_51 : decode prog_11_method_6_code 51 = .ok (.iaload, 1) := by decide +kernel
theorem dX9_settled_52 : decode prog_11_method_6_code 52 = .ok (.iaload, 1) := by decide +kernel
theorem dX9_settled_53 : decode prog_11_method_6_code 53 = .ok (.aload_n 0, 1) := by decide +kernel
theorem dX9_settled_54 : decode prog_11_method_6_code 54 = .ok (.getfield 36, 3) := by decide +kernel
theorem dX9_settled_57 : decode prog_11_method_6_code 57 = .ok (.iload 5, 2) := by decide +kernel
theorem dX9_settled_59 : decode prog_11_method_6_code 59 = .ok (.iaload, 1) := by decide +kernel
theorem dX9_settled_60 : decode prog_11_method_6_code 60 = .ok (.if_icmp .lt 7, 3) := by decide +kernel
theorem dX9_settled_63 : decode prog_11_method_6_code 63 = .ok (.iconst 1, 1) := by decide +kernel
theorem dX9_settled_64 : decode prog_11_method_6_code 64 = .ok (.goto 4, 3) := by decide +kernel
theorem dX9_settled_67 : decode prog_11_method_6_code 67 = .ok (.iconst 0, 1) := by decide +kernel
theorem dX9_settled_68 : decode prog_11_method_6_code 68 = .ok (.istore_n 3, 1) := by decide +kernel
theorem dX9_settled_69 : decode prog_11_method_6_code 69 = .ok (.iinc 4 1, 3) := by decide +kernel
theorem dX9_settled_72 : decode prog_11_method_6_code 72 = .ok (.goto (-55), 3) := by decide +kernel
theorem dX9_settled_75 : decode prog_11_method_6_code 75 = .ok (.iload_n 1, 1) := by decide +kernel
theorem dX9_settled_76 : decode prog_11_method_6_code 76 = .ok (.iload_n 3, 1) := by decide +kernel
theorem dX9_settled_77 : decode prog_11_method_6_code 77 = .ok (.ifCond .eq 7, 3) := by decide +kernel
theorem dX9_settled_80 : decode prog_11_method_6_code 80 = .ok (.iconst 1, 1) := by decide +kernel
theorem dX9_settled_81 : decode prog_11_method_6_code 81 = .ok (.goto 4, 3) := by decide +kernel
theorem dX9_settled_84 : decode prog_11_method_6_code 84 = .ok (.iconst 0, 1) := by decide +kernel
theorem dX9_settled_85 : decode prog_11_method_6_code 85 = .ok (.iadd, 1) := by decide +kernel
theorem dX9_settled_86 : decode prog_11_method_6_code 86 = .ok (.istore_n 1, 1) := by decide +kernel
theorem dX9_settled_87 : decode prog_11_method_6_code 87 = .ok (.iinc 2 1, 3) := by decide +kernel
theorem dX9_settled_90 : decode prog_11_method_6_code 90 = .ok (.goto (-86), 3) := by decide +kernel
theorem dX9_settled_93 : decode prog_11_method_6_code 93 = .ok (.iload_n 1, 1) := by decide +kernel
theorem dX9_settled_94 : decode prog_11_method_6_code 94 = .ok (.ireturn, 1) := by decide +kernel
abbrev A_X9_settled_4 (l : Launch) (E : bE) (Q : Int → Prop) (M : bM) : (Int × Int) → Prop := (fun t : Int × Int => V l E xX9_settled (0, 0) 4 [(0, bR 10), (1, bI (t.1)), (2, bI (t.2))] [] M (b_pIp M Q))
abbrev X_X9_settled_4 (l : Launch) (E : bE) (Q : Int → Prop) (M : bM) : (Int) → Prop := (fun t : Int => V l E xX9_settled (0, 0) 93 [(1, bI t)] [] M (b_pIp M Q))
abbrev A_X9_settled_17 (l : Launch) (E : bE) (Q : Int → Prop) (v1 : Int) (v2 : Int) (M : bM) : (Int × Int) → Prop := (fun t : Int × Int => V l E xX9_settled (0, 0) 17 [(0, bR 10), (1, bI v1), (2, bI v2), (3, bI (t.1)), (4, bI (t.2))] [] M (b_pIp M Q))
abbrev X_X9_settled_17 (l : Launch) (E : bE) (Q : Int → Prop) (v1 : Int) (v2 : Int) (M : bM) : (Int) → Prop := (fun t : Int => V l E xX9_settled (0, 0) 75 [(0, bR 10), (1, bI v1), (2, bI v2), (3, bI t)] [] M (b_pIp M Q))
noncomputable def F_X9_settled_s17 (v1 : Int) (v2 : Int) (v3 : Int) (v4 : Int) (M : bM) : Option ((Int × Int) ⊕ (Int)) :=
  b_g (0 ≤ v2 ∧ v2 < 30) (if (M 159 v2) ≤ v4 then (some (.inr (v3))) else (if v3 = 0 then (some (.inr (v3))) else (b_g ((b_i32 (v2 * 8)) ∧ (b_i32 ((v2 * 8) + v4))) (b_let (((v2 * 8) + v4)) (fun y7 => b_g ((0 ≤ y7 ∧ y7 < 240) ∧ (0 ≤ (M 160 y7) ∧ (M 160 y7) < 30)) (if (M 158 (M 160 y7)) < (M 161 y7) then (b_g (b_i32 (v4 + 1)) (some (.inl (0, (v4 + 1))))) else (b_g (b_i32 (v4 + 1)) (some (.inl (1, (v4 + 1)))))))))))
theorem t_X9_settled_s17 {l : Launch} {E : bE} {Q : Int → Prop} {v1 : Int} {v2 : Int} {v3 : Int} {v4 : Int} {M : bM} (h : b_wp (F_X9_settled_s17 v1 v2 v3 v4 M) (Sum.elim (A_X9_settled_17 l E Q v1 v2 M) (X_X9_settled_17 l E Q v1 v2 M))) : V l E xX9_settled (0, 0) 17 [(0, bR 10), (1, bI v1), (2, bI v2), (3, bI v3), (4, bI v4)] [] M (b_pIp M Q) := by
  unfold F_X9_settled_s17 at h
  obtain ⟨g2, h⟩ := b_wp_g h
  refine v_iload (i := 4) 4 rfl dX9_settled_17 ?_
  refine v_aload_n (f := 0) 0 rfl dX9_settled_19 ?_
  refine v_getR (kf := 10) (kz := 10) rfl kd_10 rfl ⟨by decide, by decide⟩ rfl wf_9_28 dX9_settled_20 ?_
  refine v_iload_n (f := 2) 2 rfl dX9_settled_23 ?_
  refine v_iaload kd_159 g2 (by decide) dX9_settled_24 ?_
  refine v_icmp_ge (tgt := 75) dX9_settled_25 (by decide) (fun c3 => ?_) (fun c3 => ?_)
  · replace h := b_wp_t c3 h
    refine v_sub (ls2 := [(0, bR _), (1, bI _), (2, bI _), (3, bI _)]) [0, 1, 2, 3] rfl ?_
    exact h
  · replace h := b_wp_f c3 h
    refine v_iload_n (f := 3) 3 rfl dX9_settled_28 ?_
    refine v_if_eq (tgt := 75) dX9_settled_29 (by decide) (fun c4 => ?_) (fun c4 => ?_)
    · replace h := b_wp_t c4 h
      refine v_sub (ls2 := [(0, bR _), (1, bI _), (2, bI _), (3, bI _)]) [0, 1, 2, 3] rfl ?_
      exact h
    · replace h := b_wp_f c4 h
      obtain ⟨⟨g5, g6⟩, h⟩ := b_wp_g h
      refine v_iload_n (f := 2) 2 rfl dX9_settled_32 ?_
      refine v_bipush ⟨by decide, by decide⟩ (by decide) dX9_settled_33 ?_
      refine v_imulN g5 dX9_settled_35 ?_
      refine v_iload (i := 4) 4 rfl dX9_settled_36 ?_
      refine v_iaddN g6 dX9_settled_38 ?_
      replace h := b_wp_l h
      obtain ⟨⟨g8, g9⟩, h⟩ := b_wp_g h
      refine v_istore (i := 5) (ls' := [(5, bI _), (0, bR _), (1, bI _), (2, bI _), (3, bI _), (4, bI _)]) (by decide) dX9_settled_39 rfl ?_
      refine v_aload_n (f := 0) 1 rfl dX9_settled_41 ?_
      refine v_getR (kf := 8) (kz := 8) rfl kd_10 rfl ⟨by decide, by decide⟩ rfl wf_9_23 dX9_settled_42 ?_
      refine v_aload_n (f := 0) 1 rfl dX9_settled_45 ?_
      refine v_getR (kf := 11) (kz := 11) rfl kd_10 rfl ⟨by decide, by decide⟩ rfl wf_9_33 dX9_settled_46 ?_
      refine v_iload (i := 5) 0 rfl dX9_settled_49 ?_
      refine v_iaload kd_160 g8 (by decide) dX9_settled_51 ?_
      refine v_iaload kd_158 g9 (by decide) dX9_settled_52 ?_
      refine v_aload_n (f := 0) 1 rfl dX9_settled_53 ?_
      refine v_getR (kf := 12) (kz := 12) rfl kd_10 rfl ⟨by decide, by decide⟩ rfl wf_9_36 dX9_settled_54 ?_
      refine v_iload (i := 5) 0 rfl dX9_settled_57 ?_
      refine v_iaload kd_161 g8 (by decide) dX9_settled_59 ?_
      refine v_icmp_lt (tgt := 67) dX9_settled_60 (by decide) (fun c10 => ?_) (fun c10 => ?_)
      · replace h := b_wp_t c10 h
        obtain ⟨g11, h⟩ := b_wp_g h
        refine v_iconst ⟨by decide, by decide⟩ dX9_settled_67 ?_
        refine v_istore_n (g := 3) (i := 3) (ls' := [(3, bI _), (5, bI _), (0, bR _), (1, bI _), (2, bI _), (4, bI _)]) rfl (by decide) dX9_settled_68 rfl ?_
        refine v_iincN (ls' := [(4, bI _), (3, bI _), (5, bI _), (0, bR _), (1, bI _), (2, bI _)]) 5 rfl (by decide) g11 dX9_settled_69 rfl ?_
        refine v_goto (tgt := 17) dX9_settled_72 (by decide) ?_
        refine v_sub (ls2 := [(0, bR _), (1, bI _), (2, bI _), (3, bI _), (4, bI _)]) [3, 4, 5, 1, 0] rfl ?_
        exact h
      · replace h := b_wp_f c10 h
        obtain ⟨g12, h⟩ := b_wp_g h
        refine v_iconst ⟨by decide, by decide⟩ dX9_settled_63 ?_
        refine v_goto (tgt := 68) dX9_settled_64 (by decide) ?_
        refine v_istore_n (g := 3) (i := 3) (ls' := [(3, bI _), (5, bI _), (0, bR _), (1, bI _), (2, bI _), (4, bI _)]) rfl (by decide) dX9_settled_68 rfl ?_
        refine v_iincN (ls' := [(4, bI _), (3, bI _), (5, bI _), (0, bR _), (1, bI _), (2, bI _)]) 5 rfl (by decide) g12 dX9_settled_69 rfl ?_
        refine v_goto (tgt := 17) dX9_settled_72 (by decide) ?_
        refine v_sub (ls2 := [(0, bR _), (1, bI _), (2, bI _), (3, bI _), (4, bI _)]) [3, 4, 5, 1, 0] rfl ?_
        exact h
theorem l_X9_settled_17 {l : Launch} {E : bE} {Q : Int → Prop} {v1 : Int} {v2 : Int} {M : bM} {s : Int × Int} (h : b_wp (b_loop (fun t => F_X9_settled_s17 v1 v2 t.1 t.2 M) s) (X_X9_settled_17 l E Q v1 v2 M)) : A_X9_settled_17 l E Q v1 v2 M s := b_loop_wp (fun t h => t_X9_settled_s17 h) s h
noncomputable def F_X9_settled_b85 (v2 : Int) (u0 : Int) (u1 : Int) (M : bM) : Option ((Int × Int) ⊕ (Int)) :=
  b_g ((b_i32 (u0 + u1)) ∧ (b_i32 (v2 + 1))) (some (.inl ((u0 + u1), (v2 + 1))))
theorem t_X9_settled_b85 {l : Launch} {E : bE} {Q : Int → Prop} {v2 : Int} {u0 : Int} {u1 : Int} {M : bM} (h : b_wp (F_X9_settled_b85 v2 u0 u1 M) (Sum.elim (A_X9_settled_4 l E Q M) (X_X9_settled_4 l E Q M))) : V l E xX9_settled (0, 0) 85 [(0, bR 10), (2, bI v2)] [bI u1, bI u0] M (b_pIp M Q) := by
  unfold F_X9_settled_b85 at h
  obtain ⟨⟨g14, g15⟩, h⟩ := b_wp_g h
  refine v_iaddN g14 dX9_settled_85 ?_
  refine v_istore_n (g := 1) (i := 1) (ls' := [(1, bI _), (0, bR _), (2, bI _)]) rfl (by decide) dX9_settled_86 rfl ?_
  refine v_iincN (ls' := [(2, bI _), (1, bI _), (0, bR _)]) 2 rfl (by decide) g15 dX9_settled_87 rfl ?_
  refine v_goto (tgt := 4) dX9_settled_90 (by decide) ?_
  refine v_sub (ls2 := [(0, bR _), (1, bI _), (2, bI _)]) [2, 1, 0] rfl ?_
  exact h
noncomputable def F_X9_settled_b75 (v1 : Int) (v2 : Int) (v3 : Int) (M : bM) : Option ((Int × Int) ⊕ (Int)) :=
  if v3 = 0 then (F_X9_settled_b85 v2 v1 0 M) else (F_X9_settled_b85 v2 v1 1 M)
theorem t_X9_settled_b75 {l : Launch} {E : bE} {Q : Int → Prop} {v1 : Int} {v2 : Int} {v3 : Int} {M : bM} (h : b_wp (F_X9_settled_b75 v1 v2 v3 M) (Sum.elim (A_X9_settled_4 l E Q M) (X_X9_settled_4 l E Q M))) : V l E xX9_settled (0, 0) 75 [(0, bR 10), (1, bI v1), (2, bI v2), (3, bI v3)] [] M (b_pIp M Q) := by
  unfold F_X9_settled_b75 at h
  refine v_iload_n (f := 1) 1 rfl dX9_settled_75 ?_
  refine v_iload_n (f := 3) 3 rfl dX9_settled_76 ?_
  refine v_if_eq (tgt := 84) dX9_settled_77 (by decide) (fun c13 => ?_) (fun c13 => ?_)
  · replace h := b_wp_t c13 h
    refine v_iconst ⟨by decide, by decide⟩ dX9_settled_84 ?_
    refine v_sub (ls2 := [(0, bR _), (2, bI _)]) [0, 2] rfl ?_
    exact t_X9_settled_b85 h
  · replace h := b_wp_f c13 h
    refine v_iconst ⟨by decide, by decide⟩ dX9_settled_80 ?_
    refine v_goto (tgt := 85) dX9_settled_81 (by decide) ?_
    refine v_sub (ls2 := [(0, bR _), (2, bI _)]) [0, 2] rfl ?_
    exact t_X9_settled_b85 h
noncomputable def F_X9_settled_s4 (v1 : Int) (v2 : Int) (M : bM) : Option ((Int × Int) ⊕ (Int)) :=
  if (M 10 9) ≤ v2 then (some (.inr (v1))) else (b_bind (b_loop (fun t => F_X9_settled_s17 v1 v2 t.1 t.2 M) (1, 0)) (fun t => F_X9_settled_b75 v1 v2 t M))
theorem t_X9_settled_s4 {l : Launch} {E : bE} {Q : Int → Prop} {v1 : Int} {v2 : Int} {M : bM} (h : b_wp (F_X9_settled_s4 v1 v2 M) (Sum.elim (A_X9_settled_4 l E Q M) (X_X9_settled_4 l E Q M))) : V l E xX9_settled (0, 0) 4 [(0, bR 10), (1, bI v1), (2, bI v2)] [] M (b_pIp M Q) := by
  unfold F_X9_settled_s4 at h
  refine v_iload_n (f := 2) 2 rfl dX9_settled_4 ?_
  refine v_aload_n (f := 0) 0 rfl dX9_settled_5 ?_
  refine v_getI (kf := 9) (kz := 9) rfl kd_10 rfl ⟨by decide, by decide⟩ rfl wf_9_69 dX9_settled_6 ?_
  refine v_icmp_ge (tgt := 93) dX9_settled_9 (by decide) (fun c1 => ?_) (fun c1 => ?_)
  · replace h := b_wp_t c1 h
    refine v_sub (ls2 := [(1, bI _)]) [1] rfl ?_
    exact h
  · replace h := b_wp_f c1 h
    refine v_iconst ⟨by decide, by decide⟩ dX9_settled_12 ?_
    refine v_istore_n (g := 3) (i := 3) (ls' := [(3, bI _), (0, bR _), (1, bI _), (2, bI _)]) rfl (by decide) dX9_settled_13 rfl ?_
    refine v_iconst ⟨by decide, by decide⟩ dX9_settled_14 ?_
    refine v_istore (i := 4) (ls' := [(4, bI _), (3, bI _), (0, bR _), (1, bI _), (2, bI _)]) (by decide) dX9_settled_15 rfl ?_
    refine v_sub (ls2 := [(0, bR _), (1, bI _), (2, bI _), (3, bI _), (4, bI _)]) [2, 3, 4, 1, 0] rfl ?_
    refine l_X9_settled_17 (b_wp_m (fun t h => ?_) (b_wp_b h))
    show V l E xX9_settled (0, 0) 75 [(0, bR 10), (1, bI _), (2, bI _), (3, bI _)] [] _ (b_pIp M Q)
    exact t_X9_settled_b75 h
theorem l_X9_settled_4 {l : Launch} {E : bE} {Q : Int → Prop} {M : bM} {s : Int × Int} (h : b_wp (b_loop (fun t => F_X9_settled_s4 t.1 t.2 M) s) (X_X9_settled_4 l E Q M)) : A_X9_settled_4 l E Q M s := b_loop_wp (fun t h => t_X9_settled_s4 h) s h
noncomputable def F_X9_settled_b93 (v1 : Int) (M : bM) : Option (Int) :=
  some v1
theorem t_X9_settled_b93 {l : Launch} {E : bE} {Q : Int → Prop} {v1 : Int} {M : bM} (h : b_wp (F_X9_settled_b93 v1 M) (Q)) : V l E xX9_settled (0, 0) 93 [(1, bI v1)] [] M (b_pIp M Q) := by
  unfold F_X9_settled_b93 at h
  refine v_iload_n (f := 1) 0 rfl dX9_settled_93 ?_
  refine v_ireturn rfl dX9_settled_94 ⟨by decide, by decide⟩ ?_
  exact ⟨_, rfl, rfl, h⟩
noncomputable def F_X9_settled (M : bM) : Option (Int) :=
  b_bind (b_loop (fun t => F_X9_settled_s4 t.1 t.2 M) (0, 0)) (fun t => F_X9_settled_b93 t M)
theorem t_X9_settled {l : Launch} {E : bE} {Q : Int → Prop} {M : bM} (h : b_wp (F_X9_settled M) (Q)) : V l E xX9_settled (0, 0) 0 [(0, bR 10)] [] M (b_pIp M Q) := by
  unfold F_X9_settled at h
  refine v_iconst ⟨by decide, by decide⟩ dX9_settled_0 ?_
  refine v_istore_n (g := 1) (i := 1) (ls' := [(1, bI _), (0, bR _)]) rfl (by decide) dX9_settled_1 rfl ?_
  refine v_iconst ⟨by decide, by decide⟩ dX9_settled_2 ?_
  refine v_istore_n (g := 2) (i := 2) (ls' := [(2, bI _), (1, bI _), (0, bR _)]) rfl (by decide) dX9_settled_3 rfl ?_
  refine v_sub (ls2 := [(0, bR _), (1, bI _), (2, bI _)]) [2, 1, 0] rfl ?_
  refine l_X9_settled_4 (b_wp_m (fun t h => ?_) (b_wp_b h))
  show V l E xX9_settled (0, 0) 93 [(1, bI _)] [] _ (b_pIp M Q)
  exact t_X9_settled_b93 h
theorem cf_X9_settled {l : Launch} {E : bE} {M : bM} {Q : Int → Prop} (h : b_wp (F_X9_settled M) Q) : b_C l E xX9_settled yX9_settled [bR 10] M (b_pIp M Q) := b_met (by decide) ⟨rfl, rfl⟩ (Nat.le_of_ble_eq_true rfl) (fun _ _ => t_X9_settled h)
abbrev xX9_settledBy : bX := ("BurntHall$Places", prog_11_method_7_code, 4, (Option.some Jvm.ClassFile.FieldType.int), b_rm 7 0 0, 0, "settledBy")
abbrev yX9_settledBy : MethodName := ⟨"BurntHall$Places", "settledBy", "(II)I"⟩
theorem dX9_settledBy_0 : decode prog_11_method_7_code 0 = .ok (.aload_n 0, 1) := by decide +kernel
theorem dX9_settledBy_1 : decode prog_11_method_7_code 1 = .ok (.iload_n 2, 1) := by decide +kernel
theorem dX9_settledBy_2 : decode prog_11_method_7_code 2 = .ok (.invokevirtual 110, 3) := by decide +kernel
theorem dX9_settledBy_5 : decode prog_11_method_7_code 5 = .ok (.aload_n 0, 1) := by decide +kernel
theorem dX9_settledBy_6 : decode prog_11_method_7_code 6 = .ok (.getfield 23, 3) := by decide +kernel
theorem dX9_settledBy_9 : decode prog_11_method_7_code 9 = .ok (.iconst 0, 1) := by decide +kernel
theorem dX9_settledBy_10 : decode prog_11_method_7_code 10 = .ok (.invokestatic 114, 3) := by decide +kernel
theorem dX9_settledBy_13 : decode prog_11_method_7_code 13 = .ok (.iconst 0, 1) := by decide +kernel
theorem dX9_settledBy_14 : decode prog_11_method_7_code 14 = .ok (.istore_n 3, 1) := by decide +kernel
theorem dX9_settledBy_15 : decode prog_11_method_7_code 15 = .ok (.iload_n 3, 1) := by decide +kernel
theorem dX9_settledBy_16 : decode prog_11_method_7_code 16 = .ok (.aload_n 0, 1) := by decide +kernel
theorem dX9_settledBy_17 : decode prog_11_method_7_code 17 = .ok (.getfield 55, 3) := by decide +kernel
theorem dX9_settledBy_20 : decode prog_11_method_7_code 20 = .ok (.if_icmp .ge 37, 3) := by decide +kernel
theorem dX9_settledBy_23 : decode prog_11_method_7_code 23 = .ok (.iload_n 1, 1) := by decide +kernel
theorem dX9_settledBy_24 : decode prog_11_method_7_code 24 = .ok (.iload_n 3, 1) := by decide +kernel
theorem dX9_settledBy_25 : decode prog_11_method_7_code 25 = .ok (.ishr, 1) := by decide +kernel
theorem dX9_settledBy_26 : decode prog_11_method_7_code 26 = .ok (.iconst 1, 1) := by decide +kernel
theorem dX9_settledBy_27 : decode prog_11_method_7_code 27 = .ok (.iand, 1) := by decide +kernel
theorem dX9_settledBy_28 : decode prog_11_method_7_code 28 = .ok (.ifCond .eq 23, 3) := by decide +kernel
theorem dX9_settledBy_31 : decode prog_11_method_7_code 31 = .ok (.aload_n 0, 1) := by decide +kernel
theorem dX9_settledBy_32 : decode prog_11_method_7_code 32 = .ok (.getfield 23, 3) := by decide +kernel
theorem dX9_settledBy_35 : decode prog_11_method_7_code 35 = .ok (.aload_n 0, 1) := by decide +kernel
theorem dX9_settledBy_36 : decode prog_11_method_7_code 36 = .ok (.getfield 15, 3) := by decide +kernel
theorem dX9_settledBy_39 : decode prog_11_method_7_code 39 = .ok (.iload_n 3, 1) := by decide +kernel
theorem dX9_settledBy_40 : decode prog_11_method_7_code 40 = .ok (.iaload, 1) := by decide +kernel
theorem dX9_settledBy_41 : decode prog_11_method_7_code 41 = .ok (.dup2, 1) := by decide +kernel
theorem dX9_settledBy_42 : decode prog_11_method_7_code 42 = .ok (.iaload, 1) := by decide +kernel
theorem dX9_settledBy_43 : decode prog_11_method_7_code 43 = .ok (.aload_n 0, 1) := by decide +kernel
theorem dX9_settledBy_44 : decode prog_11_method_7_code 44 = .ok (.getfield 18, 3) := by decide +kernel
theorem dX9_settledBy_47 : decode prog_11_method_7_code 47 = .ok (.iload_n 3, 1) := by decide +kernel
theorem dX9_settledBy_48 : decode prog_11_method_7_code 48 = .ok (.iaload, 1) := by decide +kernel
theorem dX9_settledBy_49 : decode prog_11_method_7_code 49 = .ok (.iadd, 1) := by decide +kernel
theorem dX9_settledBy_50 : decode prog_11_method_7_code 50 = .ok (.iastore, 1) := by decide +kernel
theorem dX9_settledBy_51 : decode prog_11_method_7_code 51 = .ok (.iinc 3 1, 3) := by decide +kernel
theorem dX9_settledBy_54 : decode prog_11_method_7_code 54 = .ok (.goto (-39), 3) := by decide +kernel
theorem dX9_settledBy_57 : decode prog_11_method_7_code 57 = .ok (.aload_n 0, 1) := by decide +kernel
theorem dX9_settledBy_58 : decode prog_11_method_7_code 58 = .ok (.invokevirtual 120, 3) := by decide +kernel
theorem dX9_settledBy_61 : decode prog_11_method_7_code 61 = .ok (.ireturn, 1) := by decide +kernel
abbrev A_X9_settledBy_15 (l : Launch) (E : bE) (Q : (Int × bM) → Prop) (v1 : Int) : (Int × bM) → Prop := (fun t : Int × bM => V l E xX9_settledBy (0, 0) 15 [(0, bR 10), (1, bI v1), (3, bI (t.1))] [] t.2 (b_pI Q))
abbrev X_X9_settledBy_15 (l : Launch) (E : bE) (Q : (Int × bM) → Prop) (v1 : Int) : (bM) → Prop := (fun t : bM => V l E xX9_settledBy (0, 0) 57 [(0, bR 10)] [] t (b_pI Q))
noncomputable def F_X9_settledBy_s15 (v1 : Int) (v3 : Int) (M : bM) : Option ((Int × bM) ⊕ (bM)) :=
  if (M 10 0) ≤ v3 then (some (.inr (M))) else (if (i_and (i_shr v1 v3) 1) = 0 then (b_g (b_i32 (v3 + 1)) (some (.inl ((v3 + 1), M)))) else (b_g ((0 ≤ v3 ∧ v3 < 12) ∧ (0 ≤ (M 156 v3) ∧ (M 156 v3) < 30) ∧ (b_i32 ((M 158 (M 156 v3)) + (M 157 v3)))) (b_let (b_up M 158 (M 156 v3) ((M 158 (M 156 v3)) + (M 157 v3))) (fun M9 => b_g (b_i32 (v3 + 1)) (some (.inl ((v3 + 1), M9)))))))
theorem t_X9_settledBy_s15 {l : Launch} {E : bE} {Q : (Int × bM) → Prop} {v1 : Int} {v3 : Int} {M : bM} (h : b_wp (F_X9_settledBy_s15 v1 v3 M) (Sum.elim (A_X9_settledBy_15 l E Q v1) (X_X9_settledBy_15 l E Q v1))) : V l E xX9_settledBy (0, 0) 15 [(0, bR 10), (1, bI v1), (3, bI v3)] [] M (b_pI Q) := by
  unfold F_X9_settledBy_s15 at h
  refine v_iload_n (f := 3) 2 rfl dX9_settledBy_15 ?_
  refine v_aload_n (f := 0) 0 rfl dX9_settledBy_16 ?_
  refine v_getI (kf := 0) (kz := 0) rfl kd_10 rfl ⟨by decide, by decide⟩ rfl wf_9_55 dX9_settledBy_17 ?_
  refine v_icmp_ge (tgt := 57) dX9_settledBy_20 (by decide) (fun c3 => ?_) (fun c3 => ?_)
  · replace h := b_wp_t c3 h
    refine v_sub (ls2 := [(0, bR _)]) [0] rfl ?_
    exact h
  · replace h := b_wp_f c3 h
    refine v_iload_n (f := 1) 1 rfl dX9_settledBy_23 ?_
    refine v_iload_n (f := 3) 2 rfl dX9_settledBy_24 ?_
    refine v_ishr (v := i_shr _ _) rfl dX9_settledBy_25 ?_
    refine v_iconst ⟨by decide, by decide⟩ dX9_settledBy_26 ?_
    refine v_iand (v := i_and _ _) rfl dX9_settledBy_27 ?_
    refine v_if_eq (tgt := 51) dX9_settledBy_28 (by decide) (fun c4 => ?_) (fun c4 => ?_)
    · replace h := b_wp_t c4 h
      obtain ⟨g5, h⟩ := b_wp_g h
      refine v_iincN (ls' := [(3, bI _), (0, bR _), (1, bI _)]) 2 rfl (by decide) g5 dX9_settledBy_51 rfl ?_
      refine v_goto (tgt := 15) dX9_settledBy_54 (by decide) ?_
      refine v_sub (ls2 := [(0, bR _), (1, bI _), (3, bI _)]) [1, 2, 0] rfl ?_
      exact h
    · replace h := b_wp_f c4 h
      obtain ⟨⟨g6, g7, g8⟩, h⟩ := b_wp_g h
      refine v_aload_n (f := 0) 0 rfl dX9_settledBy_31 ?_
      refine v_getR (kf := 8) (kz := 8) rfl kd_10 rfl ⟨by decide, by decide⟩ rfl wf_9_23 dX9_settledBy_32 ?_
      refine v_aload_n (f := 0) 0 rfl dX9_settledBy_35 ?_
      refine v_getR (kf := 6) (kz := 6) rfl kd_10 rfl ⟨by decide, by decide⟩ rfl wf_9_15 dX9_settledBy_36 ?_
      refine v_iload_n (f := 3) 2 rfl dX9_settledBy_39 ?_
      refine v_iaload kd_156 g6 (by decide) dX9_settledBy_40 ?_
      refine v_dup2 rfl rfl dX9_settledBy_41 ?_
      refine v_iaload kd_158 g7 (by decide) dX9_settledBy_42 ?_
      refine v_aload_n (f := 0) 0 rfl dX9_settledBy_43 ?_
      refine v_getR (kf := 7) (kz := 7) rfl kd_10 rfl ⟨by decide, by decide⟩ rfl wf_9_18 dX9_settledBy_44 ?_
      refine v_iload_n (f := 3) 2 rfl dX9_settledBy_47 ?_
      refine v_iaload kd_157 g6 (by decide) dX9_settledBy_48 ?_
      refine v_iaddN g8 dX9_settledBy_49 ?_
      refine v_iastore kd_158 g7 (by decide) dX9_settledBy_50 ?_
      replace h := b_wp_l h
      obtain ⟨g10, h⟩ := b_wp_g h
      refine v_iincN (ls' := [(3, bI _), (0, bR _), (1, bI _)]) 2 rfl (by decide) g10 dX9_settledBy_51 rfl ?_
      refine v_goto (tgt := 15) dX9_settledBy_54 (by decide) ?_
      refine v_sub (ls2 := [(0, bR _), (1, bI _), (3, bI _)]) [1, 2, 0] rfl ?_
      exact h
theorem l_X9_settledBy_15 {l : Launch} {E : bE} {Q : (Int × bM) → Prop} {v1 : Int} {s : Int × bM} (h : b_wp (b_loop (fun t => F_X9_settledBy_s15 v1 t.1 t.2) s) (X_X9_settledBy_15 l E Q v1)) : A_X9_settledBy_15 l E Q v1 s := b_loop_wp (fun t h => t_X9_settledBy_s15 h) s h
noncomputable def F_X9_settledBy_b57 (M : bM) : Option (Int × bM) :=
  b_bind (F_X9_settled M) (fun x11 => some (x11, M))
theorem t_X9_settledBy_b57 {l : Launch} {E : bE} {Q : (Int × bM) → Prop} {M : bM} (h : b_wp (F_X9_settledBy_b57 M) (Q)) : V l E xX9_settledBy (0, 0) 57 [(0, bR 10)] [] M (b_pI Q) := by
  unfold F_X9_settledBy_b57 at h
  refine v_aload_n (f := 0) 0 rfl dX9_settledBy_57 ?_
  refine v_cVIp (nA := 0) (As := []) (ix := 120) (cf_X9_settled (b_wp_b h)) rfl kd_10 rfl rfl wc_X9_settled wm_9_120 wi_X9_settled ws_X9_settled wn_9 ⟨by decide, by decide, by decide⟩ rfl ⟨by decide, by decide⟩ ⟨by decide, by decide⟩ (Nat.le_of_ble_eq_true rfl) dX9_settledBy_58 (fun x11 h => ?_)
  refine v_ireturn rfl dX9_settledBy_61 ⟨by decide, by decide⟩ ?_
  exact ⟨_, rfl, h⟩
noncomputable def F_X9_settledBy (v1 : Int) (v2 : Int) (M : bM) : Option (Int × bM) :=
  b_bind (F_X9_gather v2 M) (fun M1 => b_bind (F_J7_fill_53178_158 0 M1) (fun M2 => b_bind (b_loop (fun t => F_X9_settledBy_s15 v1 t.1 t.2) (0, M2)) (fun t => F_X9_settledBy_b57 t)))
theorem t_X9_settledBy {l : Launch} {E : bE} {Q : (Int × bM) → Prop} {v1 : Int} {v2 : Int} {M : bM} (h : b_wp (F_X9_settledBy v1 v2 M) (Q)) : V l E xX9_settledBy (0, 0) 0 [(0, bR 10), (1, bI v1), (2, bI v2)] [] M (b_pI Q) := by
  unfold F_X9_settledBy at h
  refine v_aload_n (f := 0) 0 rfl dX9_settledBy_0 ?_
  refine v_iload_n (f := 2) 2 rfl dX9_settledBy_1 ?_
  refine v_cVV (nA := 1) (As := [bI _]) (ix := 110) (cf_X9_gather (b_wp_b h)) rfl kd_10 rfl rfl wc_X9_gather wm_9_110 wi_X9_gather ws_X9_gather wn_9 ⟨by decide, by decide, by decide⟩ rfl ⟨by decide, by decide⟩ ⟨by decide, by decide⟩ (Nat.le_of_ble_eq_true rfl) dX9_settledBy_2 (fun M1 h => ?_)
  refine v_aload_n (f := 0) 0 rfl dX9_settledBy_5 ?_
  refine v_getR (kf := 8) (kz := 8) rfl kd_10 rfl ⟨by decide, by decide⟩ rfl wf_9_23 dX9_settledBy_6 ?_
  refine v_iconst ⟨by decide, by decide⟩ dX9_settledBy_9 ?_
  refine v_cSV (nA := 2) (As := [bR _, bI _]) (ix := 114) (cf_J7_fill_53178_158 (b_wp_b h)) rfl wc_J7_fill_53178 wm_9_114 wi_J7_fill_53178 wn_java_util_Arrays ⟨by decide, by decide, by decide⟩ rfl ⟨by decide, by decide⟩ ⟨by decide, by decide⟩ (Nat.le_of_ble_eq_true rfl) dX9_settledBy_10 (fun M2 h => ?_)
  refine v_iconst ⟨by decide, by decide⟩ dX9_settledBy_13 ?_
  refine v_istore_n (g := 3) (i := 3) (ls' := [(3, bI _), (0, bR _), (1, bI _), (2, bI _)]) rfl (by decide) dX9_settledBy_14 rfl ?_
  refine v_sub (ls2 := [(0, bR _), (1, bI _), (3, bI _)]) [1, 2, 0] rfl ?_
  refine l_X9_settledBy_15 (b_wp_m (fun t h => ?_) (b_wp_b h))
  show V l E xX9_settledBy (0, 0) 57 [(0, bR 10)] [] _ (b_pI Q)
  exact t_X9_settledBy_b57 h
theorem cf_X9_settledBy {l : Launch} {E : bE} {M : bM} {v1 : Int} {v2 : Int} {Q : (Int × bM) → Prop} (h : b_wp (F_X9_settledBy v1 v2 M) Q) : b_C l E xX9_settledBy yX9_settledBy [bR 10, bI v1, bI v2] M (b_pI Q) := b_met (by decide) ⟨rfl, rfl⟩ (Nat.le_of_ble_eq_true rfl) (fun _ _ => t_X9_settledBy h)
abbrev xX11_settles : bX := ("BurntHall", prog_1_method_52_code, 2, (Option.some Jvm.ClassFile.FieldType.int), b_rm 8 0 0, 0, "settles")
abbrev yX11_settles : MethodName := ⟨"BurntHall", "settles", "(I)I"⟩
theorem dX11_settles_0 : decode prog_1_method_52_code 0 = .ok (.iload_n 1, 1) := by decide +kernel
theorem dX11_settles_1 : decode prog_1_method_52_code 1 = .ok (.ifCond .lt 16, 3) := by decide +kernel
theorem dX11_settles_4 : decode prog_1_method_52_code 4 = .ok (.iload_n 1, 1) := by decide +kernel
theorem dX11_settles_5 : decode prog_1_method_52_code 5 = .ok (.iconst 1, 1) := by decide +kernel
theorem dX11_settles_6 : decode prog_1_method_52_code 6 = .ok (.aload_n 0, 1) := by decide +kernel
theorem dX11_settles_7 : decode prog_1_method_52_code 7 = .ok (.getfield 87, 3) := by decide +kernel
theorem dX11_settles_10 : decode prog_1_method_52_code 10 = .ok (.getfield 355, 3) := by decide +kernel
theorem dX11_settles_13 : decode prog_1_method_52_code 13 = .ok (.ishl, 1) := by decide +kernel
theorem dX11_settles_14 : decode prog_1_method_52_code 14 = .ok (.if_icmp .lt 6, 3) := by decide +kernel
theorem dX11_settles_17 : decode prog_1_method_52_code 17 = .ok (.bipush (-2), 2) := by decide +kernel
theorem dX11_settles_19 : decode prog_1_method_52_code 19 = .ok (.ireturn, 1) := by decide +kernel
theorem dX11_settles_20 : decode prog_1_method_52_code 20 = .ok (.aload_n 0, 1) := by decide +kernel
theorem dX11_settles_21 : decode prog_1_method_52_code 21 = .ok (.getfield 51, 3) := by decide +kernel
theorem dX11_settles_24 : decode prog_1_method_52_code 24 = .ok (.aload_n 0, 1) := by decide +kernel
theorem dX11_settles_25 : decode prog_1_method_52_code 25 = .ok (.getfield 91, 3) := by decide +kernel
theorem dX11_settles_28 : decode prog_1_method_52_code 28 = .ok (.invokevirtual 284, 3) := by decide +kernel
theorem dX11_settles_31 : decode prog_1_method_52_code 31 = .ok (.aload_n 0, 1) := by decide +kernel
theorem dX11_settles_32 : decode prog_1_method_52_code 32 = .ok (.getfield 87, 3) := by decide +kernel
theorem dX11_settles_35 : decode prog_1_method_52_code 35 = .ok (.iload_n 1, 1) := by decide +kernel
theorem dX11_settles_36 : decode prog_1_method_52_code 36 = .ok (.aload_n 0, 1) := by decide +kernel
theorem dX11_settles_37 : decode prog_1_method_52_code 37 = .ok (.getfield 91, 3) := by decide +kernel
theorem dX11_settles_40 : decode prog_1_method_52_code 40 = .ok (.invokevirtual 356, 3) := by decide +kernel
theorem dX11_settles_43 : decode prog_1_method_52_code 43 = .ok (.ireturn, 1) := by decide +kernel
noncomputable def F_X11_settles (v1 : Int) (M : bM) : Option (Int × bM) :=
  if v1 < 0 then (some ((-2), M)) else (if v1 < (i_shl 1 (M 10 0)) then (b_bind (F_X4_know (M 0 10) M) (fun M3 => b_bind (F_X9_settledBy v1 (M3 0 10) M3) (fun t => b_two t (fun x4 M5 => some (x4, M5))))) else (some ((-2), M)))
theorem t_X11_settles {l : Launch} {E : bE} {Q : (Int × bM) → Prop} {v1 : Int} {M : bM} (h : b_wp (F_X11_settles v1 M) (Q)) : V l E xX11_settles (0, 0) 0 [(0, bR 0), (1, bI v1)] [] M (b_pI Q) := by
  unfold F_X11_settles at h
  refine v_iload_n (f := 1) 1 rfl dX11_settles_0 ?_
  refine v_if_lt (tgt := 17) dX11_settles_1 (by decide) (fun c1 => ?_) (fun c1 => ?_)
  · replace h := b_wp_t c1 h
    refine v_bipush ⟨by decide, by decide⟩ (by decide) dX11_settles_17 ?_
    refine v_ireturn rfl dX11_settles_19 ⟨by decide, by decide⟩ ?_
    exact ⟨_, rfl, h⟩
  · replace h := b_wp_f c1 h
    refine v_iload_n (f := 1) 1 rfl dX11_settles_4 ?_
    refine v_iconst ⟨by decide, by decide⟩ dX11_settles_5 ?_
    refine v_aload_n (f := 0) 0 rfl dX11_settles_6 ?_
    refine v_getR (kf := 9) (kz := 9) rfl kd_0 rfl ⟨by decide, by decide⟩ rfl wf_11_87 dX11_settles_7 ?_
    refine v_getI (kf := 0) (kz := 0) rfl kd_10 rfl ⟨by decide, by decide⟩ rfl wf_11_355 dX11_settles_10 ?_
    refine v_ishl (v := i_shl _ _) rfl dX11_settles_13 ?_
    refine v_icmp_lt (tgt := 20) dX11_settles_14 (by decide) (fun c2 => ?_) (fun c2 => ?_)
    · replace h := b_wp_t c2 h
      refine v_aload_n (f := 0) 0 rfl dX11_settles_20 ?_
      refine v_getR (kf := 5) (kz := 5) rfl kd_0 rfl ⟨by decide, by decide⟩ rfl wf_11_51 dX11_settles_21 ?_
      refine v_aload_n (f := 0) 0 rfl dX11_settles_24 ?_
      refine v_getI (kf := 10) (kz := 10) rfl kd_0 rfl ⟨by decide, by decide⟩ rfl wf_11_91 dX11_settles_25 ?_
      refine v_cVV (nA := 1) (As := [bI _]) (ix := 284) (cf_X4_know (b_wp_b h)) rfl kd_6 rfl rfl wc_X4_know wm_11_284 wi_X4_know ws_X4_know wn_4 ⟨by decide, by decide, by decide⟩ rfl ⟨by decide, by decide⟩ ⟨by decide, by decide⟩ (Nat.le_of_ble_eq_true rfl) dX11_settles_28 (fun M3 h => ?_)
      refine v_aload_n (f := 0) 0 rfl dX11_settles_31 ?_
      refine v_getR (kf := 9) (kz := 9) rfl kd_0 rfl ⟨by decide, by decide⟩ rfl wf_11_87 dX11_settles_32 ?_
      refine v_iload_n (f := 1) 1 rfl dX11_settles_35 ?_
      refine v_aload_n (f := 0) 0 rfl dX11_settles_36 ?_
      refine v_getI (kf := 10) (kz := 10) rfl kd_0 rfl ⟨by decide, by decide⟩ rfl wf_11_91 dX11_settles_37 ?_
      refine v_cVI (nA := 2) (As := [bI _, bI _]) (ix := 356) (cf_X9_settledBy (b_wp_b h)) rfl kd_10 rfl rfl wc_X9_settledBy wm_11_356 wi_X9_settledBy ws_X9_settledBy wn_9 ⟨by decide, by decide, by decide⟩ rfl ⟨by decide, by decide⟩ ⟨by decide, by decide⟩ (Nat.le_of_ble_eq_true rfl) dX11_settles_40 (fun x4 M5 h => ?_)
      replace h := b_wp_two h
      refine v_ireturn rfl dX11_settles_43 ⟨by decide, by decide⟩ ?_
      exact ⟨_, rfl, h⟩
    · replace h := b_wp_f c2 h
      refine v_bipush ⟨by decide, by decide⟩ (by decide) dX11_settles_17 ?_
      refine v_ireturn rfl dX11_settles_19 ⟨by decide, by decide⟩ ?_
      exact ⟨_, rfl, h⟩
theorem cf_X11_settles {l : Launch} {E : bE} {M : bM} {v1 : Int} {Q : (Int × bM) → Prop} (h : b_wp (F_X11_settles v1 M) Q) : b_C l E xX11_settles yX11_settles [bR 0, bI v1] M (b_pI Q) := b_met (by decide) ⟨rfl, rfl⟩ (Nat.le_of_ble_eq_true rfl) (fun _ _ => t_X11_settles h)
abbrev xX9_turn : bX := ("BurntHall$Places", prog_11_method_9_code, 6, (Option.some Jvm.ClassFile.FieldType.int), b_rm 1 0 0, 0, "turn")
abbrev yX9_turn : MethodName := ⟨"BurntHall$Places", "turn", "(II)I"⟩
theorem dX9_turn_0 : decode prog_11_method_9_code 0 = .ok (.iconst 0, 1) := by decide +kernel
theorem dX9_turn_1 : decode prog_11_method_9_code 1 = .ok (.istore_n 3, 1) := by decide +kernel
theorem dX9_turn_2 : decode prog_11_method_9_code 2 = .ok (.iconst 0, 1) := by decide +kernel
theorem dX9_turn_3 : decode prog_11_method_9_code 3 = .ok (.istore 4, 2) := by decide +kernel
theorem dX9_turn_5 : decode prog_11_method_9_code 5 = .ok (.iload 4, 2) := by decide +kernel
theorem dX9_turn_7 : decode prog_11_method_9_code 7 = .ok (.aload_n 0, 1) := by decide +kernel
theorem dX9_turn_8 : decode prog_11_method_9_code 8 = .ok (.getfield 55, 3) := by decide +kernel
theorem dX9_turn_11 : decode prog_11_method_9_code 11 = .ok (.if_icmp .ge 72, 3) := by decide +kernel
theorem dX9_turn_14 : decode prog_11_method_9_code 14 = .ok (.iload_n 1, 1) := by decide +kernel
theorem dX9_turn_15 : decode prog_11_method_9_code 15 = .ok (.iload_n 2, 1) := by decide +kernel
theorem dX9_turn_16 : decode prog_11_method_9_code 16 = .ok (.ixor, 1) := by decide +kernel
theorem dX9_turn_17 : decode prog_11_method_9_code 17 = .ok (.iload 4, 2) := by decide +kernel
theorem dX9_turn_19 : decode prog_11_method_9_code 19 = .ok (.ishr, 1) := by decide +kernel
theorem dX9_turn_20 : decode prog_11_method_9_code 20 = .ok (.ifCond .eq 63, 3) := by decide +kernel
theorem dX9_turn_23 : decode prog_11_method_9_code 23 = .ok (.iload_n 2, 1) := by decide +kernel
theorem dX9_turn_24 : decode prog_11_method_9_code 24 = .ok (.iload 4, 2) := by decide +kernel
theorem dX9_turn_26 : decode prog_11_method_9_code 26 = .ok (.ishr, 1) := by decide +kernel
theorem dX9_turn_27 : decode prog_11_method_9_code 27 = .ok (.iconst 1, 1) := by decide +kernel
theorem dX9_turn_28 : decode prog_11_method_9_code 28 = .ok (.iand, 1) := by decide +kernel
theorem dX9_turn_29 : decode prog_11_method_9_code 29 = .ok (.ifCond .eq 7, 3) := by decide +kernel
theorem dX9_turn_32 : decode prog_11_method_9_code 32 = .ok (.iconst 1, 1) := by decide +kernel
theorem dX9_turn_33 : decode prog_11_method_9_code 33 = .ok (.goto 4, 3) := by decide +kernel
theorem dX9_turn_36 : decode prog_11_method_9_code 36 = .ok (.iconst (-1), 1) := by decide +kernel
theorem dX9_turn_37 : decode prog_11_method_9_code 37 = .ok (.istore 5, 2) := by decide +kernel
theorem dX9_turn_39 : decode prog_11_method_9_code 39 = .ok (.aload_n 0, 1) := by decide +kernel
theorem dX9_turn_40 : decode prog_11_method_9_code 40 = .ok (.getfield 23, 3) := by decide +kernel
theorem dX9_turn_43 : decode prog_11_method_9_code 43 = .ok (.aload_n 0, 1) := by decide +kernel
theorem dX9_turn_44 : decode prog_11_method_9_code 44 = .ok (.getfield 15, 3) := by decide +kernel
theorem dX9_turn_47 : decode prog_11_method_9_code 47 = .ok (.iload 4, 2) := by decide +kernel
theorem dX9_turn_49 : decode prog_11_method_9_code 49 = .ok (.iaload, 1) := by decide +kernel
theorem dX9_turn_50 : decode prog_11_method_9_code 50 = .ok (.dup2, 1) := by decide +kernel
theorem dX9_turn_51 : decode prog_11_method_9_code 51 = .ok (.iaload, 1) := by decide +kernel
theorem dX9_turn_52 : decode prog_11_method_9_code 52 = .ok (.iload 5, 2) := by decide +kernel
theorem dX9_turn_54 : decode prog_11_method_9_code 54 = .ok (.aload_n 0, 1) := by decide +kernel
theorem dX9_turn_55 : decode prog_11_method_9_code 55 = .ok (.getfield 18, 3) := by decide +kernel
theorem dX9_turn_58 : decode prog_11_method_9_code 58 = .ok (.iload 4, 2) := by decide +kernel
theorem dX9_turn_60 : decode prog_11_method_9_code 60 = .ok (.iaload, 1) := by decide +kernel
theorem dX9_turn_61 : decode prog_11_method_9_code 61 = .ok (.imul, 1) := by decide +kernel
theorem dX9_turn_62 : decode prog_11_method_9_code 62 = .ok (.iadd, 1) := by decide +kernel
theorem dX9_turn_63 : decode prog_11_method_9_code 63 = .ok (.iastore, 1) := by decide +kernel
theorem dX9_turn_64 : decode prog_11_method_9_code 64 = .ok (.iload_n 3, 1) := by decide +kernel
theorem dX9_turn_65 : decode prog_11_method_9_code 65 = .ok (.iload 5, 2) := by decide +kernel
theorem dX9_turn_67 : decode prog_11_method_9_code 67 = .ok (.aload_n 0, 1) := by decide +kernel
theorem dX9_turn_68 : decode prog_11_method_9_code 68 = .ok (.getfield 11, 3) := by decide +kernel
theorem dX9_turn_71 : decode prog_11_method_9_code 71 = .ok (.iload 4, 2) := by decide +kernel
theorem dX9_turn_73 : decode prog_11_method_9_code 73 = .ok (.iaload, 1) := by decide +kernel
theorem dX9_turn_74 : decode prog_11_method_9_code 74 = .ok (.imul, 1) := by decide +kernel
theorem dX9_turn_75 : decode prog_11_method_9_code 75 = .ok (.iadd, 1) := by decide +kernel
theorem dX9_turn_76 : decode prog_11_method_9_code 76 = .ok (.istore_n 3, 1) := by decide +kernel
theorem dX9_turn_77 : decode prog_11_method_9_code 77 = .ok (.iinc 4 1, 3) := by decide +kernel
theorem dX9_turn_80 : decode prog_11_method_9_code 80 = .ok (.goto (-75), 3) := by decide +kernel
theorem dX9_turn_83 : decode prog_11_method_9_code 83 = .ok (.iload_n 3, 1) := by decide +kernel
theorem dX9_turn_84 : decode prog_11_method_9_code 84 = .ok (.ireturn, 1) := by decide +kernel
abbrev A_X9_turn_5 (l : Launch) (E : bE) (Q : (Int × bM) → Prop) (v1 : Int) (v2 : Int) : (Int × Int × bM) → Prop := (fun t : Int × Int × bM => V l E xX9_turn (0, 0) 5 [(0, bR 10), (1, bI v1), (2, bI v2), (3, bI (t.1)), (4, bI (t.2.1))] [] t.2.2 (b_pI Q))
abbrev X_X9_turn_5 (l : Launch) (E : bE) (Q : (Int × bM) → Prop) (v1 : Int) (v2 : Int) : (Int × bM) → Prop := (fun t : Int × bM => V l E xX9_turn (0, 0) 83 [(3, bI (t.1))] [] t.2 (b_pI Q))
noncomputable def F_X9_turn_b37 (v1 : Int) (v2 : Int) (v3 : Int) (v4 : Int) (u0 : Int) (M : bM) : Option ((Int × Int × bM) ⊕ (Int × bM)) :=
  b_g ((0 ≤ v4 ∧ v4 < 12) ∧ (0 ≤ (M 156 v4) ∧ (M 156 v4) < 30) ∧ (b_i32 (u0 * (M 157 v4))) ∧ (b_i32 ((M 158 (M 156 v4)) + (u0 * (M 157 v4))))) (b_let (b_up M 158 (M 156 v4) ((M 158 (M 156 v4)) + (u0 * (M 157 v4)))) (fun M8 => b_g ((0 ≤ v4 ∧ v4 < 12) ∧ (b_i32 (u0 * (M8 155 v4))) ∧ (b_i32 (v3 + (u0 * (M8 155 v4))))) (b_let ((v3 + (u0 * (M8 155 v4)))) (fun y12 => b_g (b_i32 (v4 + 1)) (some (.inl (y12, (v4 + 1), M8)))))))
theorem t_X9_turn_b37 {l : Launch} {E : bE} {Q : (Int × bM) → Prop} {v1 : Int} {v2 : Int} {v3 : Int} {v4 : Int} {u0 : Int} {M : bM} (h : b_wp (F_X9_turn_b37 v1 v2 v3 v4 u0 M) (Sum.elim (A_X9_turn_5 l E Q v1 v2) (X_X9_turn_5 l E Q v1 v2))) : V l E xX9_turn (0, 0) 37 [(0, bR 10), (1, bI v1), (2, bI v2), (3, bI v3), (4, bI v4)] [bI u0] M (b_pI Q) := by
  unfold F_X9_turn_b37 at h
  obtain ⟨⟨g4, g5, g6, g7⟩, h⟩ := b_wp_g h
  refine v_istore (i := 5) (ls' := [(5, bI _), (0, bR _), (1, bI _), (2, bI _), (3, bI _), (4, bI _)]) (by decide) dX9_turn_37 rfl ?_
  refine v_aload_n (f := 0) 1 rfl dX9_turn_39 ?_
  refine v_getR (kf := 8) (kz := 8) rfl kd_10 rfl ⟨by decide, by decide⟩ rfl wf_9_23 dX9_turn_40 ?_
  refine v_aload_n (f := 0) 1 rfl dX9_turn_43 ?_
  refine v_getR (kf := 6) (kz := 6) rfl kd_10 rfl ⟨by decide, by decide⟩ rfl wf_9_15 dX9_turn_44 ?_
  refine v_iload (i := 4) 5 rfl dX9_turn_47 ?_
  refine v_iaload kd_156 g4 (by decide) dX9_turn_49 ?_
  refine v_dup2 rfl rfl dX9_turn_50 ?_
  refine v_iaload kd_158 g5 (by decide) dX9_turn_51 ?_
  refine v_iload (i := 5) 0 rfl dX9_turn_52 ?_
  refine v_aload_n (f := 0) 1 rfl dX9_turn_54 ?_
  refine v_getR (kf := 7) (kz := 7) rfl kd_10 rfl ⟨by decide, by decide⟩ rfl wf_9_18 dX9_turn_55 ?_
  refine v_iload (i := 4) 5 rfl dX9_turn_58 ?_
  refine v_iaload kd_157 g4 (by decide) dX9_turn_60 ?_
  refine v_imulN g6 dX9_turn_61 ?_
  refine v_iaddN g7 dX9_turn_62 ?_
  refine v_iastore kd_158 g5 (by decide) dX9_turn_63 ?_
  replace h := b_wp_l h
  obtain ⟨⟨g9, g10, g11⟩, h⟩ := b_wp_g h
  refine v_iload_n (f := 3) 4 rfl dX9_turn_64 ?_
  refine v_iload (i := 5) 0 rfl dX9_turn_65 ?_
  refine v_aload_n (f := 0) 1 rfl dX9_turn_67 ?_
  refine v_getR (kf := 5) (kz := 5) rfl kd_10 rfl ⟨by decide, by decide⟩ rfl wf_9_11 dX9_turn_68 ?_
  refine v_iload (i := 4) 5 rfl dX9_turn_71 ?_
  refine v_iaload kd_155 g9 (by decide) dX9_turn_73 ?_
  refine v_imulN g10 dX9_turn_74 ?_
  refine v_iaddN g11 dX9_turn_75 ?_
  replace h := b_wp_l h
  obtain ⟨g13, h⟩ := b_wp_g h
  refine v_istore_n (g := 3) (i := 3) (ls' := [(3, bI _), (5, bI _), (0, bR _), (1, bI _), (2, bI _), (4, bI _)]) rfl (by decide) dX9_turn_76 rfl ?_
  refine v_iincN (ls' := [(4, bI _), (3, bI _), (5, bI _), (0, bR _), (1, bI _), (2, bI _)]) 5 rfl (by decide) g13 dX9_turn_77 rfl ?_
  refine v_goto (tgt := 5) dX9_turn_80 (by decide) ?_
  refine v_sub (ls2 := [(0, bR _), (1, bI _), (2, bI _), (3, bI _), (4, bI _)]) [3, 4, 5, 1, 0] rfl ?_
  exact h
noncomputable def F_X9_turn_s5 (v1 : Int) (v2 : Int) (v3 : Int) (v4 : Int) (M : bM) : Option ((Int × Int × bM) ⊕ (Int × bM)) :=
  if (M 10 0) ≤ v4 then (some (.inr (v3, M))) else (if (i_shr (i_xor v1 v2) v4) = 0 then (some (.inr (v3, M))) else (if (i_and (i_shr v2 v4) 1) = 0 then (F_X9_turn_b37 v1 v2 v3 v4 (-1) M) else (F_X9_turn_b37 v1 v2 v3 v4 1 M)))
theorem t_X9_turn_s5 {l : Launch} {E : bE} {Q : (Int × bM) → Prop} {v1 : Int} {v2 : Int} {v3 : Int} {v4 : Int} {M : bM} (h : b_wp (F_X9_turn_s5 v1 v2 v3 v4 M) (Sum.elim (A_X9_turn_5 l E Q v1 v2) (X_X9_turn_5 l E Q v1 v2))) : V l E xX9_turn (0, 0) 5 [(0, bR 10), (1, bI v1), (2, bI v2), (3, bI v3), (4, bI v4)] [] M (b_pI Q) := by
  unfold F_X9_turn_s5 at h
  refine v_iload (i := 4) 4 rfl dX9_turn_5 ?_
  refine v_aload_n (f := 0) 0 rfl dX9_turn_7 ?_
  refine v_getI (kf := 0) (kz := 0) rfl kd_10 rfl ⟨by decide, by decide⟩ rfl wf_9_55 dX9_turn_8 ?_
  refine v_icmp_ge (tgt := 83) dX9_turn_11 (by decide) (fun c1 => ?_) (fun c1 => ?_)
  · replace h := b_wp_t c1 h
    refine v_sub (ls2 := [(3, bI _)]) [3] rfl ?_
    exact h
  · replace h := b_wp_f c1 h
    refine v_iload_n (f := 1) 1 rfl dX9_turn_14 ?_
    refine v_iload_n (f := 2) 2 rfl dX9_turn_15 ?_
    refine v_ixor (v := i_xor _ _) rfl dX9_turn_16 ?_
    refine v_iload (i := 4) 4 rfl dX9_turn_17 ?_
    refine v_ishr (v := i_shr _ _) rfl dX9_turn_19 ?_
    refine v_if_eq (tgt := 83) dX9_turn_20 (by decide) (fun c2 => ?_) (fun c2 => ?_)
    · replace h := b_wp_t c2 h
      refine v_sub (ls2 := [(3, bI _)]) [3] rfl ?_
      exact h
    · replace h := b_wp_f c2 h
      refine v_iload_n (f := 2) 2 rfl dX9_turn_23 ?_
      refine v_iload (i := 4) 4 rfl dX9_turn_24 ?_
      refine v_ishr (v := i_shr _ _) rfl dX9_turn_26 ?_
      refine v_iconst ⟨by decide, by decide⟩ dX9_turn_27 ?_
      refine v_iand (v := i_and _ _) rfl dX9_turn_28 ?_
      refine v_if_eq (tgt := 36) dX9_turn_29 (by decide) (fun c3 => ?_) (fun c3 => ?_)
      · replace h := b_wp_t c3 h
        refine v_iconst ⟨by decide, by decide⟩ dX9_turn_36 ?_
        exact t_X9_turn_b37 h
      · replace h := b_wp_f c3 h
        refine v_iconst ⟨by decide, by decide⟩ dX9_turn_32 ?_
        refine v_goto (tgt := 37) dX9_turn_33 (by decide) ?_
        exact t_X9_turn_b37 h
theorem l_X9_turn_5 {l : Launch} {E : bE} {Q : (Int × bM) → Prop} {v1 : Int} {v2 : Int} {s : Int × Int × bM} (h : b_wp (b_loop (fun t => F_X9_turn_s5 v1 v2 t.1 t.2.1 t.2.2) s) (X_X9_turn_5 l E Q v1 v2)) : A_X9_turn_5 l E Q v1 v2 s := b_loop_wp (fun t h => t_X9_turn_s5 h) s h
noncomputable def F_X9_turn_b83 (v3 : Int) (M : bM) : Option (Int × bM) :=
  some (v3, M)
theorem t_X9_turn_b83 {l : Launch} {E : bE} {Q : (Int × bM) → Prop} {v3 : Int} {M : bM} (h : b_wp (F_X9_turn_b83 v3 M) (Q)) : V l E xX9_turn (0, 0) 83 [(3, bI v3)] [] M (b_pI Q) := by
  unfold F_X9_turn_b83 at h
  refine v_iload_n (f := 3) 0 rfl dX9_turn_83 ?_
  refine v_ireturn rfl dX9_turn_84 ⟨by decide, by decide⟩ ?_
  exact ⟨_, rfl, h⟩
noncomputable def F_X9_turn (v1 : Int) (v2 : Int) (M : bM) : Option (Int × bM) :=
  b_bind (b_loop (fun t => F_X9_turn_s5 v1 v2 t.1 t.2.1 t.2.2) (0, 0, M)) (fun t => F_X9_turn_b83 (t.1) (t.2))
theorem t_X9_turn {l : Launch} {E : bE} {Q : (Int × bM) → Prop} {v1 : Int} {v2 : Int} {M : bM} (h : b_wp (F_X9_turn v1 v2 M) (Q)) : V l E xX9_turn (0, 0) 0 [(0, bR 10), (1, bI v1), (2, bI v2)] [] M (b_pI Q) := by
  unfold F_X9_turn at h
  refine v_iconst ⟨by decide, by decide⟩ dX9_turn_0 ?_
  refine v_istore_n (g := 3) (i := 3) (ls' := [(3, bI _), (0, bR _), (1, bI _), (2, bI _)]) rfl (by decide) dX9_turn_1 rfl ?_
  refine v_iconst ⟨by decide, by decide⟩ dX9_turn_2 ?_
  refine v_istore (i := 4) (ls' := [(4, bI _), (3, bI _), (0, bR _), (1, bI _), (2, bI _)]) (by decide) dX9_turn_3 rfl ?_
  refine v_sub (ls2 := [(0, bR _), (1, bI _), (2, bI _), (3, bI _), (4, bI _)]) [2, 3, 4, 1, 0] rfl ?_
  refine l_X9_turn_5 (b_wp_m (fun t h => ?_) (b_wp_b h))
  show V l E xX9_turn (0, 0) 83 [(3, bI _)] [] _ (b_pI Q)
  exact t_X9_turn_b83 h
theorem cf_X9_turn {l : Launch} {E : bE} {M : bM} {v1 : Int} {v2 : Int} {Q : (Int × bM) → Prop} (h : b_wp (F_X9_turn v1 v2 M) Q) : b_C l E xX9_turn yX9_turn [bR 10, bI v1, bI v2] M (b_pI Q) := b_met (by decide) ⟨rfl, rfl⟩ (Nat.le_of_ble_eq_true rfl) (fun _ _ => t_X9_turn h)
abbrev xX9_bestWithin : bX := ("BurntHall$Places", prog_11_method_8_code, 7, (Option.some Jvm.ClassFile.FieldType.int), b_rm 7 0 0, 0, "bestWithin")
abbrev yX9_bestWithin : MethodName := ⟨"BurntHall$Places", "bestWithin", "(II)I"⟩
theorem dX9_bestWithin_0 : decode prog_11_method_8_code 0 = .ok (.aload_n 0, 1) := by decide +kernel
theorem dX9_bestWithin_1 : decode prog_11_method_8_code 1 = .ok (.iload_n 2, 1) := by decide +kernel
theorem dX9_bestWithin_2 : decode prog_11_method_8_code 2 = .ok (.invokevirtual 110, 3) := by decide +kernel
theorem dX9_bestWithin_5 : decode prog_11_method_8_code 5 = .ok (.aload_n 0, 1) := by decide +kernel
theorem dX9_bestWithin_6 : decode prog_11_method_8_code 6 = .ok (.getfield 23, 3) := by decide +kernel
theorem dX9_bestWithin_9 : decode prog_11_method_8_code 9 = .ok (.iconst 0, 1) := by decide +kernel
theorem dX9_bestWithin_10 : decode prog_11_method_8_code 10 = .ok (.invokestatic 114, 3) := by decide +kernel
theorem dX9_bestWithin_13 : decode prog_11_method_8_code 13 = .ok (.iconst (-1), 1) := by decide +kernel
theorem dX9_bestWithin_14 : decode prog_11_method_8_code 14 = .ok (.istore_n 3, 1) := by decide +kernel
theorem dX9_bestWithin_15 : decode prog_11_method_8_code 15 = .ok (.iconst 0, 1) := by decide +kernel
theorem dX9_bestWithin_16 : decode prog_11_method_8_code 16 = .ok (.istore 4, 2) := by decide +kernel
theorem dX9_bestWithin_18 : decode prog_11_method_8_code 18 = .ok (.iconst 0, 1) := by decide +kernel
theorem dX9_bestWithin_19 : decode prog_11_method_8_code 19 = .ok (.istore 5, 2) := by decide +kernel
theorem dX9_bestWithin_21 : decode prog_11_method_8_code 21 = .ok (.iload 5, 2) := by decide +kernel
theorem dX9_bestWithin_23 : decode prog_11_method_8_code 23 = .ok (.iconst 1, 1) := by decide +kernel
theorem dX9_bestWithin_24 : decode prog_11_method_8_code 24 = .ok (.aload_n 0, 1) := by decide +kernel
theorem dX9_bestWithin_25 : decode prog_11_method_8_code 25 = .ok (.getfield 55, 3) := by decide +kernel
theorem dX9_bestWithin_28 : decode prog_11_method_8_code 28 = .ok (.ishl, 1) := by decide +kernel
theorem dX9_bestWithin_29 : decode prog_11_method_8_code 29 = .ok (.if_icmp .ge 87, 3) := by decide +kernel
theorem dX9_bestWithin_32 : decode prog_11_method_8_code 32 = .ok (.iload 5, 2) := by decide +kernel
theorem dX9_bestWithin_34 : decode prog_11_method_8_code 34 = .ok (.ifCond .le 18, 3) := by decide +kernel
theorem dX9_bestWithin_37 : decode prog_11_method_8_code 37 = .ok (.iload 4, 2) := by decide +kernel
theorem dX9_bestWithin_39 : decode prog_11_method_8_code 39 = .ok (.aload_n 0, 1) := by decide +kernel
theorem dX9_bestWithin_40 : decode prog_11_method_8_code 40 = .ok (.iload 5, 2) := by decide +kernel
theorem dX9_bestWithin_42 : decode prog_11_method_8_code 42 = .ok (.iconst 1, 1) := by decide +kernel
theorem dX9_bestWithin_43 : decode prog_11_method_8_code 43 = .ok (.isub, 1) := by decide +kernel
theorem dX9_bestWithin_44 : decode prog_11_method_8_code 44 = .ok (.iload 5, 2) := by decide +kernel
theorem dX9_bestWithin_46 : decode prog_11_method_8_code 46 = .ok (.invokevirtual 124, 3) := by decide +kernel
theorem dX9_bestWithin_49 : decode prog_11_method_8_code 49 = .ok (.iadd, 1) := by decide +kernel
theorem dX9_bestWithin_50 : decode prog_11_method_8_code 50 = .ok (.istore 4, 2) := by decide +kernel
theorem dX9_bestWithin_52 : decode prog_11_method_8_code 52 = .ok (.iload 4, 2) := by decide +kernel
theorem dX9_bestWithin_54 : decode prog_11_method_8_code 54 = .ok (.iload_n 1, 1) := by decide +kernel
theorem dX9_bestWithin_55 : decode prog_11_method_8_code 55 = .ok (.if_icmp .gt 10, 3) := by decide +kernel
theorem dX9_bestWithin_58 : decode prog_11_method_8_code 58 = .ok (.aload_n 0, 1) := by decide +kernel
theorem dX9_bestWithin_59 : decode prog_11_method_8_code 59 = .ok (.invokevirtual 120, 3) := by decide +kernel
theorem dX9_bestWithin_62 : decode prog_11_method_8_code 62 = .ok (.goto 4, 3) := by decide +kernel
theorem dX9_bestWithin_65 : decode prog_11_method_8_code 65 = .ok (.iconst (-1), 1) := by decide +kernel
theorem dX9_bestWithin_66 : decode prog_11_method_8_code 66 = .ok (.istore 6, 2) := by decide +kernel
theorem dX9_bestWithin_68 : decode prog_11_method_8_code 68 = .ok (.iload 6, 2) := by decide +kernel
theorem dX9_bestWithin_70 : decode prog_11_method_8_code 70 = .ok (.iload_n 3, 1) := by decide +kernel
theorem dX9_bestWithin_71 : decode prog_11_method_8_code 71 = .ok (.if_icmp .gt 24, 3) := by decide +kernel
theorem dX9_bestWithin_74 : decode prog_11_method_8_code 74 = .ok (.iload 6, 2) := by decide +kernel
theorem dX9_bestWithin_76 : decode prog_11_method_8_code 76 = .ok (.iload_n 3, 1) := by decide +kernel
theorem dX9_bestWithin_77 : decode prog_11_method_8_code 77 = .ok (.if_icmp .ne 33, 3) := by decide +kernel
theorem dX9_bestWithin_80 : decode prog_11_method_8_code 80 = .ok (.iload 6, 2) := by decide +kernel
theorem dX9_bestWithin_82 : decode prog_11_method_8_code 82 = .ok (.iconst (-1), 1) := by decide +kernel
theorem dX9_bestWithin_83 : decode prog_11_method_8_code 83 = .ok (.if_icmp .eq 27, 3) := by decide +kernel
theorem dX9_bestWithin_86 : decode prog_11_method_8_code 86 = .ok (.iload 4, 2) := by decide +kernel
theorem dX9_bestWithin_88 : decode prog_11_method_8_code 88 = .ok (.aload_n 0, 1) := by decide +kernel
theorem dX9_bestWithin_89 : decode prog_11_method_8_code 89 = .ok (.getfield 66, 3) := by decide +kernel
theorem dX9_bestWithin_92 : decode prog_11_method_8_code 92 = .ok (.if_icmp .ge 18, 3) := by decide +kernel
theorem dX9_bestWithin_95 : decode prog_11_method_8_code 95 = .ok (.iload 6, 2) := by decide +kernel
theorem dX9_bestWithin_97 : decode prog_11_method_8_code 97 = .ok (.istore_n 3, 1) := by decide +kernel
theorem dX9_bestWithin_98 : decode prog_11_method_8_code 98 = .ok (.aload_n 0, 1) := by decide +kernel
theorem dX9_bestWithin_99 : decode prog_11_method_8_code 99 = .ok (.iload 5, 2) := by decide +kernel
theorem dX9_bestWithin_101 : decode prog_11_method_8_code 101 = .ok (.putfield 63, 3) := by decide +kernel
theorem dX9_bestWithin_104 : decode prog_11_method_8_code 104 = .ok (.aload_n 0, 1) := by decide +kernel
theorem dX9_bestWithin_105 : decode prog_11_method_8_code 105 = .ok (.iload 4, 2) := by decide +kernel
theorem dX9_bestWithin_107 : decode prog_11_method_8_code 107 = .ok (.putfield 66, 3) := by decide +kernel
theorem dX9_bestWithin_110 : decode prog_11_method_8_code 110 = .ok (.iinc 5 1, 3) := by decide +kernel
theorem dX9_bestWithin_113 : decode prog_11_method_8_code 113 = .ok (.goto (-92), 3) := by decide +kernel
theorem dX9_bestWithin_116 : decode prog_11_method_8_code 116 = .ok (.aload_n 0, 1) := by decide +kernel
theorem dX9_bestWithin_117 : decode prog_11_method_8_code 117 = .ok (.iconst 1, 1) := by decide +kernel
theorem dX9_bestWithin_118 : decode prog_11_method_8_code 118 = .ok (.putfield 59, 3) := by decide +kernel
theorem dX9_bestWithin_121 : decode prog_11_method_8_code 121 = .ok (.iload_n 3, 1) := by decide +kernel
theorem dX9_bestWithin_122 : decode prog_11_method_8_code 122 = .ok (.ireturn, 1) := by decide +kernel
abbrev A_X9_bestWithin_21 (l : Launch) (E : bE) (Q : (Int × bM) → Prop) (v1 : Int) : (Int × Int × Int × bM) → Prop := (fun t : Int × Int × Int × bM => V l E xX9_bestWithin (0, 0) 21 [(0, bR 10), (1, bI v1), (3, bI (t.1)), (4, bI (t.2.1)), (5, bI (t.2.2.1))] [] t.2.2.2 (b_pI Q))
abbrev X_X9_bestWithin_21 (l : Launch) (E : bE) (Q : (Int × bM) → Prop) (v1 : Int) : (Int × bM) → Prop := (fun t : Int × bM => V l E xX9_bestWithin (0, 0) 116 [(0, bR 10), (3, bI (t.1))] [] t.2 (b_pI Q))
noncomputable def F_X9_bestWithin_b95 (v1 : Int) (v4 : Int) (v5 : Int) (v6 : Int) (M : bM) : Option ((Int × Int × Int × bM) ⊕ (Int × bM)) :=
  b_let (b_up M 10 14 v5) (fun M7 => b_let (b_up M7 10 15 v4) (fun M8 => b_g (b_i32 (v5 + 1)) (some (.inl (v6, v4, (v5 + 1), M8)))))
theorem t_X9_bestWithin_b95 {l : Launch} {E : bE} {Q : (Int × bM) → Prop} {v1 : Int} {v4 : Int} {v5 : Int} {v6 : Int} {M : bM} (h : b_wp (F_X9_bestWithin_b95 v1 v4 v5 v6 M) (Sum.elim (A_X9_bestWithin_21 l E Q v1) (X_X9_bestWithin_21 l E Q v1))) : V l E xX9_bestWithin (0, 0) 95 [(0, bR 10), (1, bI v1), (4, bI v4), (5, bI v5), (6, bI v6)] [] M (b_pI Q) := by
  unfold F_X9_bestWithin_b95 at h
  refine v_iload (i := 6) 4 rfl dX9_bestWithin_95 ?_
  refine v_istore_n (g := 3) (i := 3) (ls' := [(3, bI _), (0, bR _), (1, bI _), (4, bI _), (5, bI _), (6, bI _)]) rfl (by decide) dX9_bestWithin_97 rfl ?_
  refine v_aload_n (f := 0) 1 rfl dX9_bestWithin_98 ?_
  refine v_iload (i := 5) 4 rfl dX9_bestWithin_99 ?_
  refine v_putI (kf := 14) (kz := 14) rfl kd_10 rfl ⟨by decide, by decide⟩ rfl wf_9_63 rfl rfl dX9_bestWithin_101 ?_
  replace h := b_wp_l h
  refine v_aload_n (f := 0) 1 rfl dX9_bestWithin_104 ?_
  refine v_iload (i := 4) 3 rfl dX9_bestWithin_105 ?_
  refine v_putI (kf := 15) (kz := 15) rfl kd_10 rfl ⟨by decide, by decide⟩ rfl wf_9_66 rfl rfl dX9_bestWithin_107 ?_
  replace h := b_wp_l h
  obtain ⟨g9, h⟩ := b_wp_g h
  refine v_iincN (ls' := [(5, bI _), (3, bI _), (0, bR _), (1, bI _), (4, bI _), (6, bI _)]) 4 rfl (by decide) g9 dX9_bestWithin_110 rfl ?_
  refine v_goto (tgt := 21) dX9_bestWithin_113 (by decide) ?_
  refine v_sub (ls2 := [(0, bR _), (1, bI _), (3, bI _), (4, bI _), (5, bI _)]) [2, 3, 1, 4, 0] rfl ?_
  exact h
noncomputable def F_X9_bestWithin_b66 (v1 : Int) (v3 : Int) (v4 : Int) (v5 : Int) (u0 : Int) (M : bM) : Option ((Int × Int × Int × bM) ⊕ (Int × bM)) :=
  if v3 < u0 then (F_X9_bestWithin_b95 v1 v4 v5 u0 M) else (if u0 = v3 then (if u0 = (-1) then (b_g (b_i32 (v5 + 1)) (some (.inl (v3, v4, (v5 + 1), M)))) else (if (M 10 15) ≤ v4 then (b_g (b_i32 (v5 + 1)) (some (.inl (v3, v4, (v5 + 1), M)))) else (F_X9_bestWithin_b95 v1 v4 v5 u0 M))) else (b_g (b_i32 (v5 + 1)) (some (.inl (v3, v4, (v5 + 1), M)))))
theorem t_X9_bestWithin_b66 {l : Launch} {E : bE} {Q : (Int × bM) → Prop} {v1 : Int} {v3 : Int} {v4 : Int} {v5 : Int} {u0 : Int} {M : bM} (h : b_wp (F_X9_bestWithin_b66 v1 v3 v4 v5 u0 M) (Sum.elim (A_X9_bestWithin_21 l E Q v1) (X_X9_bestWithin_21 l E Q v1))) : V l E xX9_bestWithin (0, 0) 66 [(0, bR 10), (1, bI v1), (3, bI v3), (4, bI v4), (5, bI v5)] [bI u0] M (b_pI Q) := by
  unfold F_X9_bestWithin_b66 at h
  refine v_istore (i := 6) (ls' := [(6, bI _), (0, bR _), (1, bI _), (3, bI _), (4, bI _), (5, bI _)]) (by decide) dX9_bestWithin_66 rfl ?_
  refine v_iload (i := 6) 0 rfl dX9_bestWithin_68 ?_
  refine v_iload_n (f := 3) 3 rfl dX9_bestWithin_70 ?_
  refine v_icmp_gt (tgt := 95) dX9_bestWithin_71 (by decide) (fun c6 => ?_) (fun c6 => ?_)
  · replace h := b_wp_t c6 h
    refine v_sub (ls2 := [(0, bR _), (1, bI _), (4, bI _), (5, bI _), (6, bI _)]) [1, 2, 4, 5, 0] rfl ?_
    exact t_X9_bestWithin_b95 h
  · replace h := b_wp_f c6 h
    refine v_iload (i := 6) 0 rfl dX9_bestWithin_74 ?_
    refine v_iload_n (f := 3) 3 rfl dX9_bestWithin_76 ?_
    refine v_icmp_ne (tgt := 110) dX9_bestWithin_77 (by decide) (fun c10 => ?_) (fun c10 => ?_)
    · replace h := b_wp_f c10 h
      obtain ⟨g11, h⟩ := b_wp_g h
      refine v_iincN (ls' := [(5, bI _), (6, bI _), (0, bR _), (1, bI _), (3, bI _), (4, bI _)]) 5 rfl (by decide) g11 dX9_bestWithin_110 rfl ?_
      refine v_goto (tgt := 21) dX9_bestWithin_113 (by decide) ?_
      refine v_sub (ls2 := [(0, bR _), (1, bI _), (3, bI _), (4, bI _), (5, bI _)]) [2, 3, 4, 5, 0] rfl ?_
      exact h
    · replace h := b_wp_t c10 h
      refine v_iload (i := 6) 0 rfl dX9_bestWithin_80 ?_
      refine v_iconst ⟨by decide, by decide⟩ dX9_bestWithin_82 ?_
      refine v_icmp_eq (tgt := 110) dX9_bestWithin_83 (by decide) (fun c12 => ?_) (fun c12 => ?_)
      · replace h := b_wp_t c12 h
        obtain ⟨g13, h⟩ := b_wp_g h
        refine v_iincN (ls' := [(5, bI _), (6, bI _), (0, bR _), (1, bI _), (3, bI _), (4, bI _)]) 5 rfl (by decide) g13 dX9_bestWithin_110 rfl ?_
        refine v_goto (tgt := 21) dX9_bestWithin_113 (by decide) ?_
        refine v_sub (ls2 := [(0, bR _), (1, bI _), (3, bI _), (4, bI _), (5, bI _)]) [2, 3, 4, 5, 0] rfl ?_
        exact h
      · replace h := b_wp_f c12 h
        refine v_iload (i := 4) 4 rfl dX9_bestWithin_86 ?_
        refine v_aload_n (f := 0) 1 rfl dX9_bestWithin_88 ?_
        refine v_getI (kf := 15) (kz := 15) rfl kd_10 rfl ⟨by decide, by decide⟩ rfl wf_9_66 dX9_bestWithin_89 ?_
        refine v_icmp_ge (tgt := 110) dX9_bestWithin_92 (by decide) (fun c14 => ?_) (fun c14 => ?_)
        · replace h := b_wp_t c14 h
          obtain ⟨g15, h⟩ := b_wp_g h
          refine v_iincN (ls' := [(5, bI _), (6, bI _), (0, bR _), (1, bI _), (3, bI _), (4, bI _)]) 5 rfl (by decide) g15 dX9_bestWithin_110 rfl ?_
          refine v_goto (tgt := 21) dX9_bestWithin_113 (by decide) ?_
          refine v_sub (ls2 := [(0, bR _), (1, bI _), (3, bI _), (4, bI _), (5, bI _)]) [2, 3, 4, 5, 0] rfl ?_
          exact h
        · replace h := b_wp_f c14 h
          refine v_sub (ls2 := [(0, bR _), (1, bI _), (4, bI _), (5, bI _), (6, bI _)]) [1, 2, 4, 5, 0] rfl ?_
          exact t_X9_bestWithin_b95 h
noncomputable def F_X9_bestWithin_b52 (v1 : Int) (v3 : Int) (v4 : Int) (v5 : Int) (M : bM) : Option ((Int × Int × Int × bM) ⊕ (Int × bM)) :=
  if v1 < v4 then (F_X9_bestWithin_b66 v1 v3 v4 v5 (-1) M) else (b_bind (F_X9_settled M) (fun x16 => F_X9_bestWithin_b66 v1 v3 v4 v5 x16 M))
theorem t_X9_bestWithin_b52 {l : Launch} {E : bE} {Q : (Int × bM) → Prop} {v1 : Int} {v3 : Int} {v4 : Int} {v5 : Int} {M : bM} (h : b_wp (F_X9_bestWithin_b52 v1 v3 v4 v5 M) (Sum.elim (A_X9_bestWithin_21 l E Q v1) (X_X9_bestWithin_21 l E Q v1))) : V l E xX9_bestWithin (0, 0) 52 [(0, bR 10), (1, bI v1), (3, bI v3), (4, bI v4), (5, bI v5)] [] M (b_pI Q) := by
  unfold F_X9_bestWithin_b52 at h
  refine v_iload (i := 4) 3 rfl dX9_bestWithin_52 ?_
  refine v_iload_n (f := 1) 1 rfl dX9_bestWithin_54 ?_
  refine v_icmp_gt (tgt := 65) dX9_bestWithin_55 (by decide) (fun c5 => ?_) (fun c5 => ?_)
  · replace h := b_wp_t c5 h
    refine v_iconst ⟨by decide, by decide⟩ dX9_bestWithin_65 ?_
    exact t_X9_bestWithin_b66 h
  · replace h := b_wp_f c5 h
    refine v_aload_n (f := 0) 0 rfl dX9_bestWithin_58 ?_
    refine v_cVIp (nA := 0) (As := []) (ix := 120) (cf_X9_settled (b_wp_b h)) rfl kd_10 rfl rfl wc_X9_settled wm_9_120 wi_X9_settled ws_X9_settled wn_9 ⟨by decide, by decide, by decide⟩ rfl ⟨by decide, by decide⟩ ⟨by decide, by decide⟩ (Nat.le_of_ble_eq_true rfl) dX9_bestWithin_59 (fun x16 h => ?_)
    refine v_goto (tgt := 66) dX9_bestWithin_62 (by decide) ?_
    exact t_X9_bestWithin_b66 h
noncomputable def F_X9_bestWithin_s21 (v1 : Int) (v3 : Int) (v4 : Int) (v5 : Int) (M : bM) : Option ((Int × Int × Int × bM) ⊕ (Int × bM)) :=
  if (i_shl 1 (M 10 0)) ≤ v5 then (some (.inr (v3, M))) else (if v5 ≤ 0 then (F_X9_bestWithin_b52 v1 v3 v4 v5 M) else (b_g (b_i32 (v5 - 1)) (b_bind (F_X9_turn (v5 - 1) v5 M) (fun t => b_two t (fun x18 M19 => b_g (b_i32 (v4 + x18)) (b_let ((v4 + x18)) (fun y21 => F_X9_bestWithin_b52 v1 v3 y21 v5 M19)))))))
theorem t_X9_bestWithin_s21 {l : Launch} {E : bE} {Q : (Int × bM) → Prop} {v1 : Int} {v3 : Int} {v4 : Int} {v5 : Int} {M : bM} (h : b_wp (F_X9_bestWithin_s21 v1 v3 v4 v5 M) (Sum.elim (A_X9_bestWithin_21 l E Q v1) (X_X9_bestWithin_21 l E Q v1))) : V l E xX9_bestWithin (0, 0) 21 [(0, bR 10), (1, bI v1), (3, bI v3), (4, bI v4), (5, bI v5)] [] M (b_pI Q) := by
  unfold F_X9_bestWithin_s21 at h
  refine v_iload (i := 5) 4 rfl dX9_bestWithin_21 ?_
  refine v_iconst ⟨by decide, by decide⟩ dX9_bestWithin_23 ?_
  refine v_aload_n (f := 0) 0 rfl dX9_bestWithin_24 ?_
  refine v_getI (kf := 0) (kz := 0) rfl kd_10 rfl ⟨by decide, by decide⟩ rfl wf_9_55 dX9_bestWithin_25 ?_
  refine v_ishl (v := i_shl _ _) rfl dX9_bestWithin_28 ?_
  refine v_icmp_ge (tgt := 116) dX9_bestWithin_29 (by decide) (fun c3 => ?_) (fun c3 => ?_)
  · replace h := b_wp_t c3 h
    refine v_sub (ls2 := [(0, bR _), (3, bI _)]) [0, 2] rfl ?_
    exact h
  · replace h := b_wp_f c3 h
    refine v_iload (i := 5) 4 rfl dX9_bestWithin_32 ?_
    refine v_if_le (tgt := 52) dX9_bestWithin_34 (by decide) (fun c4 => ?_) (fun c4 => ?_)
    · replace h := b_wp_t c4 h
      exact t_X9_bestWithin_b52 h
    · replace h := b_wp_f c4 h
      obtain ⟨g17, h⟩ := b_wp_g h
      refine v_iload (i := 4) 3 rfl dX9_bestWithin_37 ?_
      refine v_aload_n (f := 0) 0 rfl dX9_bestWithin_39 ?_
      refine v_iload (i := 5) 4 rfl dX9_bestWithin_40 ?_
      refine v_iconst ⟨by decide, by decide⟩ dX9_bestWithin_42 ?_
      refine v_isubN g17 dX9_bestWithin_43 ?_
      refine v_iload (i := 5) 4 rfl dX9_bestWithin_44 ?_
      refine v_cVI (nA := 2) (As := [bI _, bI _]) (ix := 124) (cf_X9_turn (b_wp_b h)) rfl kd_10 rfl rfl wc_X9_turn wm_9_124 wi_X9_turn ws_X9_turn wn_9 ⟨by decide, by decide, by decide⟩ rfl ⟨by decide, by decide⟩ ⟨by decide, by decide⟩ (Nat.le_of_ble_eq_true rfl) dX9_bestWithin_46 (fun x18 M19 h => ?_)
      replace h := b_wp_two h
      obtain ⟨g20, h⟩ := b_wp_g h
      refine v_iaddN g20 dX9_bestWithin_49 ?_
      replace h := b_wp_l h
      refine v_istore (i := 4) (ls' := [(4, bI _), (0, bR _), (1, bI _), (3, bI _), (5, bI _)]) (by decide) dX9_bestWithin_50 rfl ?_
      refine v_sub (ls2 := [(0, bR _), (1, bI _), (3, bI _), (4, bI _), (5, bI _)]) [1, 2, 3, 0, 4] rfl ?_
      exact t_X9_bestWithin_b52 h
theorem l_X9_bestWithin_21 {l : Launch} {E : bE} {Q : (Int × bM) → Prop} {v1 : Int} {s : Int × Int × Int × bM} (h : b_wp (b_loop (fun t => F_X9_bestWithin_s21 v1 t.1 t.2.1 t.2.2.1 t.2.2.2) s) (X_X9_bestWithin_21 l E Q v1)) : A_X9_bestWithin_21 l E Q v1 s := b_loop_wp (fun t h => t_X9_bestWithin_s21 h) s h
noncomputable def F_X9_bestWithin_b116 (v3 : Int) (M : bM) : Option (Int × bM) :=
  b_let (b_up M 10 13 1) (fun M22 => some (v3, M22))
theorem t_X9_bestWithin_b116 {l : Launch} {E : bE} {Q : (Int × bM) → Prop} {v3 : Int} {M : bM} (h : b_wp (F_X9_bestWithin_b116 v3 M) (Q)) : V l E xX9_bestWithin (0, 0) 116 [(0, bR 10), (3, bI v3)] [] M (b_pI Q) := by
  unfold F_X9_bestWithin_b116 at h
  refine v_aload_n (f := 0) 0 rfl dX9_bestWithin_116 ?_
  refine v_iconst ⟨by decide, by decide⟩ dX9_bestWithin_117 ?_
  refine v_putZ (kf := 13) (kz := 13) rfl kd_10 rfl ⟨by decide, by decide⟩ rfl (Or.inr rfl) wf_9_59 rfl rfl dX9_bestWithin_118 ?_
  replace h := b_wp_l h
  refine v_iload_n (f := 3) 1 rfl dX9_bestWithin_121 ?_
  refine v_ireturn rfl dX9_bestWithin_122 ⟨by decide, by decide⟩ ?_
  exact ⟨_, rfl, h⟩
noncomputable def F_X9_bestWithin (v1 : Int) (v2 : Int) (M : bM) : Option (Int × bM) :=
  b_bind (F_X9_gather v2 M) (fun M1 => b_bind (F_J7_fill_53178_158 0 M1) (fun M2 => b_bind (b_loop (fun t => F_X9_bestWithin_s21 v1 t.1 t.2.1 t.2.2.1 t.2.2.2) ((-1), 0, 0, M2)) (fun t => F_X9_bestWithin_b116 (t.1) (t.2))))
theorem t_X9_bestWithin {l : Launch} {E : bE} {Q : (Int × bM) → Prop} {v1 : Int} {v2 : Int} {M : bM} (h : b_wp (F_X9_bestWithin v1 v2 M) (Q)) : V l E xX9_bestWithin (0, 0) 0 [(0, bR 10), (1, bI v1), (2, bI v2)] [] M (b_pI Q) := by
  unfold F_X9_bestWithin at h
  refine v_aload_n (f := 0) 0 rfl dX9_bestWithin_0 ?_
  refine v_iload_n (f := 2) 2 rfl dX9_bestWithin_1 ?_
  refine v_cVV (nA := 1) (As := [bI _]) (ix := 110) (cf_X9_gather (b_wp_b h)) rfl kd_10 rfl rfl wc_X9_gather wm_9_110 wi_X9_gather ws_X9_gather wn_9 ⟨by decide, by decide, by decide⟩ rfl ⟨by decide, by decide⟩ ⟨by decide, by decide⟩ (Nat.le_of_ble_eq_true rfl) dX9_bestWithin_2 (fun M1 h => ?_)
  refine v_aload_n (f := 0) 0 rfl dX9_bestWithin_5 ?_
  refine v_getR (kf := 8) (kz := 8) rfl kd_10 rfl ⟨by decide, by decide⟩ rfl wf_9_23 dX9_bestWithin_6 ?_
  refine v_iconst ⟨by decide, by decide⟩ dX9_bestWithin_9 ?_
  refine v_cSV (nA := 2) (As := [bR _, bI _]) (ix := 114) (cf_J7_fill_53178_158 (b_wp_b h)) rfl wc_J7_fill_53178 wm_9_114 wi_J7_fill_53178 wn_java_util_Arrays ⟨by decide, by decide, by decide⟩ rfl ⟨by decide, by decide⟩ ⟨by decide, by decide⟩ (Nat.le_of_ble_eq_true rfl) dX9_bestWithin_10 (fun M2 h => ?_)
  refine v_iconst ⟨by decide, by decide⟩ dX9_bestWithin_13 ?_
  refine v_istore_n (g := 3) (i := 3) (ls' := [(3, bI _), (0, bR _), (1, bI _), (2, bI _)]) rfl (by decide) dX9_bestWithin_14 rfl ?_
  refine v_iconst ⟨by decide, by decide⟩ dX9_bestWithin_15 ?_
  refine v_istore (i := 4) (ls' := [(4, bI _), (3, bI _), (0, bR _), (1, bI _), (2, bI _)]) (by decide) dX9_bestWithin_16 rfl ?_
  refine v_iconst ⟨by decide, by decide⟩ dX9_bestWithin_18 ?_
  refine v_istore (i := 5) (ls' := [(5, bI _), (4, bI _), (3, bI _), (0, bR _), (1, bI _), (2, bI _)]) (by decide) dX9_bestWithin_19 rfl ?_
  refine v_sub (ls2 := [(0, bR _), (1, bI _), (3, bI _), (4, bI _), (5, bI _)]) [3, 4, 2, 1, 0] rfl ?_
  refine l_X9_bestWithin_21 (b_wp_m (fun t h => ?_) (b_wp_b h))
  show V l E xX9_bestWithin (0, 0) 116 [(0, bR 10), (3, bI _)] [] _ (b_pI Q)
  exact t_X9_bestWithin_b116 h
theorem cf_X9_bestWithin {l : Launch} {E : bE} {M : bM} {v1 : Int} {v2 : Int} {Q : (Int × bM) → Prop} (h : b_wp (F_X9_bestWithin v1 v2 M) Q) : b_C l E xX9_bestWithin yX9_bestWithin [bR 10, bI v1, bI v2] M (b_pI Q) := b_met (by decide) ⟨rfl, rfl⟩ (Nat.le_of_ble_eq_true rfl) (fun _ _ => t_X9_bestWithin h)
abbrev xX11_next : bX := ("BurntHall", prog_1_method_53_code, 2, (Option.some Jvm.ClassFile.FieldType.int), b_rm 8 0 0, 0, "next")
abbrev yX11_next : MethodName := ⟨"BurntHall", "next", "(I)I"⟩
theorem dX11_next_0 : decode prog_1_method_53_code 0 = .ok (.iload_n 1, 1) := by decide +kernel
theorem dX11_next_1 : decode prog_1_method_53_code 1 = .ok (.ifCond .lt 10, 3) := by decide +kernel
theorem dX11_next_4 : decode prog_1_method_53_code 4 = .ok (.iload_n 1, 1) := by decide +kernel
theorem dX11_next_5 : decode prog_1_method_53_code 5 = .ok (.sipush 1200, 3) := by decide +kernel
theorem dX11_next_8 : decode prog_1_method_53_code 8 = .ok (.if_icmp .le 6, 3) := by decide +kernel
theorem dX11_next_11 : decode prog_1_method_53_code 11 = .ok (.bipush (-2), 2) := by decide +kernel
theorem dX11_next_13 : decode prog_1_method_53_code 13 = .ok (.ireturn, 1) := by decide +kernel
theorem dX11_next_14 : decode prog_1_method_53_code 14 = .ok (.aload_n 0, 1) := by decide +kernel
theorem dX11_next_15 : decode prog_1_method_53_code 15 = .ok (.getfield 51, 3) := by decide +kernel
theorem dX11_next_18 : decode prog_1_method_53_code 18 = .ok (.aload_n 0, 1) := by decide +kernel
theorem dX11_next_19 : decode prog_1_method_53_code 19 = .ok (.getfield 91, 3) := by decide +kernel
theorem dX11_next_22 : decode prog_1_method_53_code 22 = .ok (.invokevirtual 284, 3) := by decide +kernel
theorem dX11_next_25 : decode prog_1_method_53_code 25 = .ok (.aload_n 0, 1) := by decide +kernel
theorem dX11_next_26 : decode prog_1_method_53_code 26 = .ok (.getfield 87, 3) := by decide +kernel
theorem dX11_next_29 : decode prog_1_method_53_code 29 = .ok (.iload_n 1, 1) := by decide +kernel
theorem dX11_next_30 : decode prog_1_method_53_code 30 = .ok (.aload_n 0, 1) := by decide +kernel
theorem dX11_next_31 : decode prog_1_method_53_code 31 = .ok (.getfield 91, 3) := by decide +kernel
theorem dX11_next_34 : decode prog_1_method_53_code 34 = .ok (.invokevirtual 359, 3) := by decide +kernel
theorem dX11_next_37 : decode prog_1_method_53_code 37 = .ok (.ireturn, 1) := by decide +kernel
noncomputable def F_X11_next (v1 : Int) (M : bM) : Option (Int × bM) :=
  if v1 < 0 then (some ((-2), M)) else (if v1 ≤ 1200 then (b_bind (F_X4_know (M 0 10) M) (fun M3 => b_bind (F_X9_bestWithin v1 (M3 0 10) M3) (fun t => b_two t (fun x4 M5 => some (x4, M5))))) else (some ((-2), M)))
theorem t_X11_next {l : Launch} {E : bE} {Q : (Int × bM) → Prop} {v1 : Int} {M : bM} (h : b_wp (F_X11_next v1 M) (Q)) : V l E xX11_next (0, 0) 0 [(0, bR 0), (1, bI v1)] [] M (b_pI Q) := by
  unfold F_X11_next at h
  refine v_iload_n (f := 1) 1 rfl dX11_next_0 ?_
  refine v_if_lt (tgt := 11) dX11_next_1 (by decide) (fun c1 => ?_) (fun c1 => ?_)
  · replace h := b_wp_t c1 h
    refine v_bipush ⟨by decide, by decide⟩ (by decide) dX11_next_11 ?_
    refine v_ireturn rfl dX11_next_13 ⟨by decide, by decide⟩ ?_
    exact ⟨_, rfl, h⟩
  · replace h := b_wp_f c1 h
    refine v_iload_n (f := 1) 1 rfl dX11_next_4 ?_
    refine v_sipush ⟨by decide, by decide⟩ (by decide) dX11_next_5 ?_
    refine v_icmp_le (tgt := 14) dX11_next_8 (by decide) (fun c2 => ?_) (fun c2 => ?_)
    · replace h := b_wp_t c2 h
      refine v_aload_n (f := 0) 0 rfl dX11_next_14 ?_
      refine v_getR (kf := 5) (kz := 5) rfl kd_0 rfl ⟨by decide, by decide⟩ rfl wf_11_51 dX11_next_15 ?_
      refine v_aload_n (f := 0) 0 rfl dX11_next_18 ?_
      refine v_getI (kf := 10) (kz := 10) rfl kd_0 rfl ⟨by decide, by decide⟩ rfl wf_11_91 dX11_next_19 ?_
      refine v_cVV (nA := 1) (As := [bI _]) (ix := 284) (cf_X4_know (b_wp_b h)) rfl kd_6 rfl rfl wc_X4_know wm_11_284 wi_X4_know ws_X4_know wn_4 ⟨by decide, by decide, by decide⟩ rfl ⟨by decide, by decide⟩ ⟨by decide, by decide⟩ (Nat.le_of_ble_eq_true rfl) dX11_next_22 (fun M3 h => ?_)
      refine v_aload_n (f := 0) 0 rfl dX11_next_25 ?_
      refine v_getR (kf := 9) (kz := 9) rfl kd_0 rfl ⟨by decide, by decide⟩ rfl wf_11_87 dX11_next_26 ?_
      refine v_iload_n (f := 1) 1 rfl dX11_next_29 ?_
      refine v_aload_n (f := 0) 0 rfl dX11_next_30 ?_
      refine v_getI (kf := 10) (kz := 10) rfl kd_0 rfl ⟨by decide, by decide⟩ rfl wf_11_91 dX11_next_31 ?_
      refine v_cVI (nA := 2) (As := [bI _, bI _]) (ix := 359) (cf_X9_bestWithin (b_wp_b h)) rfl kd_10 rfl rfl wc_X9_bestWithin wm_11_359 wi_X9_bestWithin ws_X9_bestWithin wn_9 ⟨by decide, by decide, by decide⟩ rfl ⟨by decide, by decide⟩ ⟨by decide, by decide⟩ (Nat.le_of_ble_eq_true rfl) dX11_next_34 (fun x4 M5 h => ?_)
      replace h := b_wp_two h
      refine v_ireturn rfl dX11_next_37 ⟨by decide, by decide⟩ ?_
      exact ⟨_, rfl, h⟩
    · replace h := b_wp_f c2 h
      refine v_bipush ⟨by decide, by decide⟩ (by decide) dX11_next_11 ?_
      refine v_ireturn rfl dX11_next_13 ⟨by decide, by decide⟩ ?_
      exact ⟨_, rfl, h⟩
theorem cf_X11_next {l : Launch} {E : bE} {M : bM} {v1 : Int} {Q : (Int × bM) → Prop} (h : b_wp (F_X11_next v1 M) Q) : b_C l E xX11_next yX11_next [bR 0, bI v1] M (b_pI Q) := b_met (by decide) ⟨rfl, rfl⟩ (Nat.le_of_ble_eq_true rfl) (fun _ _ => t_X11_next h)
abbrev xX9_recall : bX := ("BurntHall$Places", prog_11_method_3_code, 2, (Option.some Jvm.ClassFile.FieldType.int), b_rm 1 0 0, 0, "recall")
abbrev yX9_recall : MethodName := ⟨"BurntHall$Places", "recall", "(I)I"⟩
theorem dX9_recall_0 : decode prog_11_method_3_code 0 = .ok (.aload_n 0, 1) := by decide +kernel
theorem dX9_recall_1 : decode prog_11_method_3_code 1 = .ok (.getfield 59, 3) := by decide +kernel
theorem dX9_recall_4 : decode prog_11_method_3_code 4 = .ok (.ifCond .ne 5, 3) := by decide +kernel
theorem dX9_recall_7 : decode prog_11_method_3_code 7 = .ok (.iconst (-1), 1) := by decide +kernel
theorem dX9_recall_8 : decode prog_11_method_3_code 8 = .ok (.ireturn, 1) := by decide +kernel
theorem dX9_recall_9 : decode prog_11_method_3_code 9 = .ok (.iload_n 1, 1) := by decide +kernel
theorem dX9_recall_10 : decode prog_11_method_3_code 10 = .ok (.ifCond .ne 10, 3) := by decide +kernel
theorem dX9_recall_13 : decode prog_11_method_3_code 13 = .ok (.aload_n 0, 1) := by decide +kernel
theorem dX9_recall_14 : decode prog_11_method_3_code 14 = .ok (.getfield 63, 3) := by decide +kernel
theorem dX9_recall_17 : decode prog_11_method_3_code 17 = .ok (.goto 16, 3) := by decide +kernel
theorem dX9_recall_20 : decode prog_11_method_3_code 20 = .ok (.iload_n 1, 1) := by decide +kernel
theorem dX9_recall_21 : decode prog_11_method_3_code 21 = .ok (.iconst 1, 1) := by decide +kernel
theorem dX9_recall_22 : decode prog_11_method_3_code 22 = .ok (.if_icmp .ne 10, 3) := by decide +kernel
theorem dX9_recall_25 : decode prog_11_method_3_code 25 = .ok (.aload_n 0, 1) := by decide +kernel
theorem dX9_recall_26 : decode prog_11_method_3_code 26 = .ok (.getfield 66, 3) := by decide +kernel
theorem dX9_recall_29 : decode prog_11_method_3_code 29 = .ok (.goto 4, 3) := by decide +kernel
theorem dX9_recall_32 : decode prog_11_method_3_code 32 = .ok (.iconst (-1), 1) := by decide +kernel
theorem dX9_recall_33 : decode prog_11_method_3_code 33 = .ok (.ireturn, 1) := by decide +kernel
noncomputable def F_X9_recall (v1 : Int) (M : bM) : Option (Int) :=
  if (M 10 13) = 0 then (some (-1)) else (if v1 = 0 then (some (M 10 14)) else (if v1 = 1 then (some (M 10 15)) else (some (-1))))
theorem t_X9_recall {l : Launch} {E : bE} {Q : Int → Prop} {v1 : Int} {M : bM} (h : b_wp (F_X9_recall v1 M) (Q)) : V l E xX9_recall (0, 0) 0 [(0, bR 10), (1, bI v1)] [] M (b_pIp M Q) := by
  unfold F_X9_recall at h
  refine v_aload_n (f := 0) 0 rfl dX9_recall_0 ?_
  refine v_getI (kf := 13) (kz := 13) rfl kd_10 rfl ⟨by decide, by decide⟩ rfl wf_9_59 dX9_recall_1 ?_
  refine v_if_ne (tgt := 9) dX9_recall_4 (by decide) (fun c1 => ?_) (fun c1 => ?_)
  · replace h := b_wp_f c1 h
    refine v_iload_n (f := 1) 1 rfl dX9_recall_9 ?_
    refine v_if_ne (tgt := 20) dX9_recall_10 (by decide) (fun c2 => ?_) (fun c2 => ?_)
    · replace h := b_wp_f c2 h
      refine v_iload_n (f := 1) 1 rfl dX9_recall_20 ?_
      refine v_iconst ⟨by decide, by decide⟩ dX9_recall_21 ?_
      refine v_icmp_ne (tgt := 32) dX9_recall_22 (by decide) (fun c3 => ?_) (fun c3 => ?_)
      · replace h := b_wp_f c3 h
        refine v_iconst ⟨by decide, by decide⟩ dX9_recall_32 ?_
        refine v_ireturn rfl dX9_recall_33 ⟨by decide, by decide⟩ ?_
        exact ⟨_, rfl, rfl, h⟩
      · replace h := b_wp_t c3 h
        refine v_aload_n (f := 0) 0 rfl dX9_recall_25 ?_
        refine v_getI (kf := 15) (kz := 15) rfl kd_10 rfl ⟨by decide, by decide⟩ rfl wf_9_66 dX9_recall_26 ?_
        refine v_goto (tgt := 33) dX9_recall_29 (by decide) ?_
        refine v_ireturn rfl dX9_recall_33 ⟨by decide, by decide⟩ ?_
        exact ⟨_, rfl, rfl, h⟩
    · replace h := b_wp_t c2 h
      refine v_aload_n (f := 0) 0 rfl dX9_recall_13 ?_
      refine v_getI (kf := 14) (kz := 14) rfl kd_10 rfl ⟨by decide, by decide⟩ rfl wf_9_63 dX9_recall_14 ?_
      refine v_goto (tgt := 33) dX9_recall_17 (by decide) ?_
      refine v_ireturn rfl dX9_recall_33 ⟨by decide, by decide⟩ ?_
      exact ⟨_, rfl, rfl, h⟩
  · replace h := b_wp_t c1 h
    refine v_iconst ⟨by decide, by decide⟩ dX9_recall_7 ?_
    refine v_ireturn rfl dX9_recall_8 ⟨by decide, by decide⟩ ?_
    exact ⟨_, rfl, rfl, h⟩
theorem cf_X9_recall {l : Launch} {E : bE} {M : bM} {v1 : Int} {Q : Int → Prop} (h : b_wp (F_X9_recall v1 M) Q) : b_C l E xX9_recall yX9_recall [bR 10, bI v1] M (b_pIp M Q) := b_met (by decide) ⟨rfl, rfl⟩ (Nat.le_of_ble_eq_true rfl) (fun _ _ => t_X9_recall h)
abbrev xX11_looked : bX := ("BurntHall", prog_1_method_54_code, 2, (Option.some Jvm.ClassFile.FieldType.int), b_rm 2 0 0, 0, "looked")
abbrev yX11_looked : MethodName := ⟨"BurntHall", "looked", "(I)I"⟩
theorem dX11_looked_0 : decode prog_1_method_54_code 0 = .ok (.aload_n 0, 1) := by decide +kernel
theorem dX11_looked_1 : decode prog_1_method_54_code 1 = .ok (.getfield 87, 3) := by decide +kernel
theorem dX11_looked_4 : decode prog_1_method_54_code 4 = .ok (.iload_n 1, 1) := by decide +kernel
theorem dX11_looked_5 : decode prog_1_method_54_code 5 = .ok (.invokevirtual 362, 3) := by decide +kernel
theorem dX11_looked_8 : decode prog_1_method_54_code 8 = .ok (.ireturn, 1) := by decide +kernel
noncomputable def F_X11_looked (v1 : Int) (M : bM) : Option (Int) :=
  b_bind (F_X9_recall v1 M) (fun x1 => some x1)
theorem t_X11_looked {l : Launch} {E : bE} {Q : Int → Prop} {v1 : Int} {M : bM} (h : b_wp (F_X11_looked v1 M) (Q)) : V l E xX11_looked (0, 0) 0 [(0, bR 0), (1, bI v1)] [] M (b_pIp M Q) := by
  unfold F_X11_looked at h
  refine v_aload_n (f := 0) 0 rfl dX11_looked_0 ?_
  refine v_getR (kf := 9) (kz := 9) rfl kd_0 rfl ⟨by decide, by decide⟩ rfl wf_11_87 dX11_looked_1 ?_
  refine v_iload_n (f := 1) 1 rfl dX11_looked_4 ?_
  refine v_cVIp (nA := 1) (As := [bI _]) (ix := 362) (cf_X9_recall (b_wp_b h)) rfl kd_10 rfl rfl wc_X9_recall wm_11_362 wi_X9_recall ws_X9_recall wn_9 ⟨by decide, by decide, by decide⟩ rfl ⟨by decide, by decide⟩ ⟨by decide, by decide⟩ (Nat.le_of_ble_eq_true rfl) dX11_looked_5 (fun x1 h => ?_)
  refine v_ireturn rfl dX11_looked_8 ⟨by decide, by decide⟩ ?_
  exact ⟨_, rfl, rfl, h⟩
theorem cf_X11_looked {l : Launch} {E : bE} {M : bM} {v1 : Int} {Q : Int → Prop} (h : b_wp (F_X11_looked v1 M) Q) : b_C l E xX11_looked yX11_looked [bR 0, bI v1] M (b_pIp M Q) := b_met (by decide) ⟨rfl, rfl⟩ (Nat.le_of_ble_eq_true rfl) (fun _ _ => t_X11_looked h)
abbrev xX3_countThat : bX := ("BurntHall$Claims", prog_5_method_9_code, 5, (Option.some Jvm.ClassFile.FieldType.int), b_rm 4 0 0, 0, "countThat")
abbrev yX3_countThat : MethodName := ⟨"BurntHall$Claims", "countThat", "(II)I"⟩
theorem dX3_countThat_0 : decode prog_5_method_9_code 0 = .ok (.iconst 0, 1) := by decide +kernel
theorem dX3_countThat_1 : decode prog_5_method_9_code 1 = .ok (.istore_n 3, 1) := by decide +kernel
theorem dX3_countThat_2 : decode prog_5_method_9_code 2 = .ok (.iconst 0, 1) := by decide +kernel
theorem dX3_countThat_3 : decode prog_5_method_9_code 3 = .ok (.istore 4, 2) := by decide +kernel
theorem dX3_countThat_5 : decode prog_5_method_9_code 5 = .ok (.iload 4, 2) := by decide +kernel
theorem dX3_countThat_7 : decode prog_5_method_9_code 7 = .ok (.aload_n 0, 1) := by decide +kernel
theorem dX3_countThat_8 : decode prog_5_method_9_code 8 = .ok (.getfield 50, 3) := by decide +kernel
theorem dX3_countThat_11 : decode prog_5_method_9_code 11 = .ok (.if_icmp .ge 23, 3) := by decide +kernel
theorem dX3_countThat_14 : decode prog_5_method_9_code 14 = .ok (.aload_n 0, 1) := by decide +kernel
theorem dX3_countThat_15 : decode prog_5_method_9_code 15 = .ok (.iload 4, 2) := by decide +kernel
theorem dX3_countThat_17 : decode prog_5_method_9_code 17 = .ok (.iload_n 2, 1) := by decide +kernel
theorem dX3_countThat_18 : decode prog_5_method_9_code 18 = .ok (.invokevirtual 70, 3) := by decide +kernel
theorem dX3_countThat_21 : decode prog_5_method_9_code 21 = .ok (.iload_n 1, 1) := by decide +kernel
theorem dX3_countThat_22 : decode prog_5_method_9_code 22 = .ok (.if_icmp .ne 6, 3) := by decide +kernel
theorem dX3_countThat_25 : decode prog_5_method_9_code 25 = .ok (.iinc 3 1, 3) := by decide +kernel
theorem dX3_countThat_28 : decode prog_5_method_9_code 28 = .ok (.iinc 4 1, 3) := by decide +kernel
theorem dX3_countThat_31 : decode prog_5_method_9_code 31 = .ok (.goto (-26), 3) := by decide +kernel
theorem dX3_countThat_34 : decode prog_5_method_9_code 34 = .ok (.iload_n 3, 1) := by decide +kernel
theorem dX3_countThat_35 : decode prog_5_method_9_code 35 = .ok (.ireturn, 1) := by decide +kernel
abbrev A_X3_countThat_5 (l : Launch) (E : bE) (Q : Int → Prop) (v1 : Int) (v2 : Int) (M : bM) : (Int × Int) → Prop := (fun t : Int × Int => V l E xX3_countThat (0, 0) 5 [(0, bR 9), (1, bI v1), (2, bI v2), (3, bI (t.1)), (4, bI (t.2))] [] M (b_pIp M Q))
abbrev X_X3_countThat_5 (l : Launch) (E : bE) (Q : Int → Prop) (v1 : Int) (v2 : Int) (M : bM) : (Int) → Prop := (fun t : Int => V l E xX3_countThat (0, 0) 34 [(3, bI t)] [] M (b_pIp M Q))
noncomputable def F_X3_countThat_s5 (v1 : Int) (v2 : Int) (v3 : Int) (v4 : Int) (M : bM) : Option ((Int × Int) ⊕ (Int)) :=
  if (M 9 0) ≤ v4 then (some (.inr (v3))) else (b_bind (F_X3_stateOf v4 v2 M) (fun x2 => if x2 = v1 then (b_g ((b_i32 (v3 + 1)) ∧ (b_i32 (v4 + 1))) (some (.inl ((v3 + 1), (v4 + 1))))) else (b_g (b_i32 (v4 + 1)) (some (.inl (v3, (v4 + 1)))))))
theorem t_X3_countThat_s5 {l : Launch} {E : bE} {Q : Int → Prop} {v1 : Int} {v2 : Int} {v3 : Int} {v4 : Int} {M : bM} (h : b_wp (F_X3_countThat_s5 v1 v2 v3 v4 M) (Sum.elim (A_X3_countThat_5 l E Q v1 v2 M) (X_X3_countThat_5 l E Q v1 v2 M))) : V l E xX3_countThat (0, 0) 5 [(0, bR 9), (1, bI v1), (2, bI v2), (3, bI v3), (4, bI v4)] [] M (b_pIp M Q) := by
  unfold F_X3_countThat_s5 at h
  refine v_iload (i := 4) 4 rfl dX3_countThat_5 ?_
  refine v_aload_n (f := 0) 0 rfl dX3_countThat_7 ?_
  refine v_getI (kf := 0) (kz := 0) rfl kd_9 rfl ⟨by decide, by decide⟩ rfl wf_3_50 dX3_countThat_8 ?_
  refine v_icmp_ge (tgt := 34) dX3_countThat_11 (by decide) (fun c1 => ?_) (fun c1 => ?_)
  · replace h := b_wp_t c1 h
    refine v_sub (ls2 := [(3, bI _)]) [3] rfl ?_
    exact h
  · replace h := b_wp_f c1 h
    refine v_aload_n (f := 0) 0 rfl dX3_countThat_14 ?_
    refine v_iload (i := 4) 4 rfl dX3_countThat_15 ?_
    refine v_iload_n (f := 2) 2 rfl dX3_countThat_17 ?_
    refine v_cVIp (nA := 2) (As := [bI _, bI _]) (ix := 70) (cf_X3_stateOf (b_wp_b h)) rfl kd_9 rfl rfl wc_X3_stateOf wm_3_70 wi_X3_stateOf ws_X3_stateOf wn_3 ⟨by decide, by decide, by decide⟩ rfl ⟨by decide, by decide⟩ ⟨by decide, by decide⟩ (Nat.le_of_ble_eq_true rfl) dX3_countThat_18 (fun x2 h => ?_)
    refine v_iload_n (f := 1) 1 rfl dX3_countThat_21 ?_
    refine v_icmp_ne (tgt := 28) dX3_countThat_22 (by decide) (fun c3 => ?_) (fun c3 => ?_)
    · replace h := b_wp_f c3 h
      obtain ⟨g4, h⟩ := b_wp_g h
      refine v_iincN (ls' := [(4, bI _), (0, bR _), (1, bI _), (2, bI _), (3, bI _)]) 4 rfl (by decide) g4 dX3_countThat_28 rfl ?_
      refine v_goto (tgt := 5) dX3_countThat_31 (by decide) ?_
      refine v_sub (ls2 := [(0, bR _), (1, bI _), (2, bI _), (3, bI _), (4, bI _)]) [1, 2, 3, 4, 0] rfl ?_
      exact h
    · replace h := b_wp_t c3 h
      obtain ⟨⟨g5, g6⟩, h⟩ := b_wp_g h
      refine v_iincN (ls' := [(3, bI _), (0, bR _), (1, bI _), (2, bI _), (4, bI _)]) 3 rfl (by decide) g5 dX3_countThat_25 rfl ?_
      refine v_iincN (ls' := [(4, bI _), (3, bI _), (0, bR _), (1, bI _), (2, bI _)]) 4 rfl (by decide) g6 dX3_countThat_28 rfl ?_
      refine v_goto (tgt := 5) dX3_countThat_31 (by decide) ?_
      refine v_sub (ls2 := [(0, bR _), (1, bI _), (2, bI _), (3, bI _), (4, bI _)]) [2, 3, 4, 1, 0] rfl ?_
      exact h
theorem l_X3_countThat_5 {l : Launch} {E : bE} {Q : Int → Prop} {v1 : Int} {v2 : Int} {M : bM} {s : Int × Int} (h : b_wp (b_loop (fun t => F_X3_countThat_s5 v1 v2 t.1 t.2 M) s) (X_X3_countThat_5 l E Q v1 v2 M)) : A_X3_countThat_5 l E Q v1 v2 M s := b_loop_wp (fun t h => t_X3_countThat_s5 h) s h
noncomputable def F_X3_countThat_b34 (v3 : Int) (M : bM) : Option (Int) :=
  some v3
theorem t_X3_countThat_b34 {l : Launch} {E : bE} {Q : Int → Prop} {v3 : Int} {M : bM} (h : b_wp (F_X3_countThat_b34 v3 M) (Q)) : V l E xX3_countThat (0, 0) 34 [(3, bI v3)] [] M (b_pIp M Q) := by
  unfold F_X3_countThat_b34 at h
  refine v_iload_n (f := 3) 0 rfl dX3_countThat_34 ?_
  refine v_ireturn rfl dX3_countThat_35 ⟨by decide, by decide⟩ ?_
  exact ⟨_, rfl, rfl, h⟩
noncomputable def F_X3_countThat (v1 : Int) (v2 : Int) (M : bM) : Option (Int) :=
  b_bind (b_loop (fun t => F_X3_countThat_s5 v1 v2 t.1 t.2 M) (0, 0)) (fun t => F_X3_countThat_b34 t M)
theorem t_X3_countThat {l : Launch} {E : bE} {Q : Int → Prop} {v1 : Int} {v2 : Int} {M : bM} (h : b_wp (F_X3_countThat v1 v2 M) (Q)) : V l E xX3_countThat (0, 0) 0 [(0, bR 9), (1, bI v1), (2, bI v2)] [] M (b_pIp M Q) := by
  unfold F_X3_countThat at h
  refine v_iconst ⟨by decide, by decide⟩ dX3_countThat_0 ?_
  refine v_istore_n (g := 3) (i := 3) (ls' := [(3, bI _), (0, bR _), (1, bI _), (2, bI _)]) rfl (by decide) dX3_countThat_1 rfl ?_
  refine v_iconst ⟨by decide, by decide⟩ dX3_countThat_2 ?_
  refine v_istore (i := 4) (ls' := [(4, bI _), (3, bI _), (0, bR _), (1, bI _), (2, bI _)]) (by decide) dX3_countThat_3 rfl ?_
  refine v_sub (ls2 := [(0, bR _), (1, bI _), (2, bI _), (3, bI _), (4, bI _)]) [2, 3, 4, 1, 0] rfl ?_
  refine l_X3_countThat_5 (b_wp_m (fun t h => ?_) (b_wp_b h))
  show V l E xX3_countThat (0, 0) 34 [(3, bI _)] [] _ (b_pIp M Q)
  exact t_X3_countThat_b34 h
theorem cf_X3_countThat {l : Launch} {E : bE} {M : bM} {v1 : Int} {v2 : Int} {Q : Int → Prop} (h : b_wp (F_X3_countThat v1 v2 M) Q) : b_C l E xX3_countThat yX3_countThat [bR 9, bI v1, bI v2] M (b_pIp M Q) := b_met (by decide) ⟨rfl, rfl⟩ (Nat.le_of_ble_eq_true rfl) (fun _ _ => t_X3_countThat h)
abbrev xX11_count : bX := ("BurntHall", prog_1_method_55_code, 2, (Option.some Jvm.ClassFile.FieldType.int), b_rm 5 0 0, 0, "count")
abbrev yX11_count : MethodName := ⟨"BurntHall", "count", "(I)I"⟩
theorem dX11_count_0 : decode prog_1_method_55_code 0 = .ok (.iload_n 1, 1) := by decide +kernel
theorem dX11_count_1 : decode prog_1_method_55_code 1 = .ok (.bipush 20, 2) := by decide +kernel
theorem dX11_count_3 : decode prog_1_method_55_code 3 = .ok (.if_icmp .lt 25, 3) := by decide +kernel
theorem dX11_count_6 : decode prog_1_method_55_code 6 = .ok (.iload_n 1, 1) := by decide +kernel
theorem dX11_count_7 : decode prog_1_method_55_code 7 = .ok (.bipush 23, 2) := by decide +kernel
theorem dX11_count_9 : decode prog_1_method_55_code 9 = .ok (.if_icmp .gt 19, 3) := by decide +kernel
theorem dX11_count_12 : decode prog_1_method_55_code 12 = .ok (.aload_n 0, 1) := by decide +kernel
theorem dX11_count_13 : decode prog_1_method_55_code 13 = .ok (.getfield 78, 3) := by decide +kernel
theorem dX11_count_16 : decode prog_1_method_55_code 16 = .ok (.iload_n 1, 1) := by decide +kernel
theorem dX11_count_17 : decode prog_1_method_55_code 17 = .ok (.bipush 20, 2) := by decide +kernel
theorem dX11_count_19 : decode prog_1_method_55_code 19 = .ok (.isub, 1) := by decide +kernel
theorem dX11_count_20 : decode prog_1_method_55_code 20 = .ok (.aload_n 0, 1) := by decide +kernel
theorem dX11_count_21 : decode prog_1_method_55_code 21 = .ok (.getfield 91, 3) := by decide +kernel
theorem dX11_count_24 : decode prog_1_method_55_code 24 = .ok (.invokevirtual 363, 3) := by decide +kernel
theorem dX11_count_27 : decode prog_1_method_55_code 27 = .ok (.ireturn, 1) := by decide +kernel
theorem dX11_count_28 : decode prog_1_method_55_code 28 = .ok (.iload_n 1, 1) := by decide +kernel
theorem dX11_count_29 : decode prog_1_method_55_code 29 = .ok (.tableswitch 156 0 11 #[63, 68, 76, 84, 92, 100, 108, 116, 124, 132, 140, 148], 63) := by decide +kernel
theorem dX11_count_92 : decode prog_1_method_55_code 92 = .ok (.aload_n 0, 1) := by decide +kernel
theorem dX11_count_93 : decode prog_1_method_55_code 93 = .ok (.getfield 91, 3) := by decide +kernel
theorem dX11_count_96 : decode prog_1_method_55_code 96 = .ok (.ireturn, 1) := by decide +kernel
theorem dX11_count_97 : decode prog_1_method_55_code 97 = .ok (.aload_n 0, 1) := by decide +kernel
theorem dX11_count_98 : decode prog_1_method_55_code 98 = .ok (.getfield 19, 3) := by decide +kernel
theorem dX11_count_101 : decode prog_1_method_55_code 101 = .ok (.getfield 249, 3) := by decide +kernel
theorem dX11_count_104 : decode prog_1_method_55_code 104 = .ok (.ireturn, 1) := by decide +kernel
theorem dX11_count_105 : decode prog_1_method_55_code 105 = .ok (.aload_n 0, 1) := by decide +kernel
theorem dX11_count_106 : decode prog_1_method_55_code 106 = .ok (.getfield 19, 3) := by decide +kernel
theorem dX11_count_109 : decode prog_1_method_55_code 109 = .ok (.getfield 366, 3) := by decide +kernel
theorem dX11_count_112 : decode prog_1_method_55_code 112 = .ok (.ireturn, 1) := by decide +kernel
theorem dX11_count_113 : decode prog_1_method_55_code 113 = .ok (.aload_n 0, 1) := by decide +kernel
theorem dX11_count_114 : decode prog_1_method_55_code 114 = .ok (.getfield 26, 3) := by decide +kernel
theorem dX11_count_117 : decode prog_1_method_55_code 117 = .ok (.getfield 250, 3) := by decide +kernel
theorem dX11_count_120 : decode prog_1_method_55_code 120 = .ok (.ireturn, 1) := by decide +kernel
theorem dX11_count_121 : decode prog_1_method_55_code 121 = .ok (.aload_n 0, 1) := by decide +kernel
theorem dX11_count_122 : decode prog_1_method_55_code 122 = .ok (.getfield 35, 3) := by decide +kernel
theorem dX11_count_125 : decode prog_1_method_55_code 125 = .ok (.getfield 212, 3) := by decide +kernel
theorem dX11_count_128 : decode prog_1_method_55_code 128 = .ok (.ireturn, 1) := by decide +kernel
theorem dX11_count_129 : decode prog_1_method_55_code 129 = .ok (.aload_n 0, 1) := by decide +kernel
theorem dX11_count_130 : decode prog_1_method_55_code 130 = .ok (.getfield 51, 3) := by decide +kernel
theorem dX11_count_133 : decode prog_1_method_55_code 133 = .ok (.getfield 243, 3) := by decide +kernel
theorem dX11_count_136 : decode prog_1_method_55_code 136 = .ok (.ireturn, 1) := by decide +kernel
theorem dX11_count_137 : decode prog_1_method_55_code 137 = .ok (.aload_n 0, 1) := by decide +kernel
theorem dX11_count_138 : decode prog_1_method_55_code 138 = .ok (.getfield 42, 3) := by decide +kernel
theorem dX11_count_141 : decode prog_1_method_55_code 141 = .ok (.getfield 369, 3) := by decide +kernel
theorem dX11_count_144 : decode prog_1_method_55_code 144 = .ok (.ireturn, 1) := by decide +kernel
theorem dX11_count_145 : decode prog_1_method_55_code 145 = .ok (.aload_n 0, 1) := by decide +kernel
theorem dX11_count_146 : decode prog_1_method_55_code 146 = .ok (.getfield 69, 3) := by decide +kernel
theorem dX11_count_149 : decode prog_1_method_55_code 149 = .ok (.getfield 370, 3) := by decide +kernel
theorem dX11_count_152 : decode prog_1_method_55_code 152 = .ok (.ireturn, 1) := by decide +kernel
theorem dX11_count_153 : decode prog_1_method_55_code 153 = .ok (.aload_n 0, 1) := by decide +kernel
theorem dX11_count_154 : decode prog_1_method_55_code 154 = .ok (.getfield 78, 3) := by decide +kernel
theorem dX11_count_157 : decode prog_1_method_55_code 157 = .ok (.getfield 371, 3) := by decide +kernel
theorem dX11_count_160 : decode prog_1_method_55_code 160 = .ok (.ireturn, 1) := by decide +kernel
theorem dX11_count_161 : decode prog_1_method_55_code 161 = .ok (.aload_n 0, 1) := by decide +kernel
theorem dX11_count_162 : decode prog_1_method_55_code 162 = .ok (.getfield 78, 3) := by decide +kernel
theorem dX11_count_165 : decode prog_1_method_55_code 165 = .ok (.getfield 372, 3) := by decide +kernel
theorem dX11_count_168 : decode prog_1_method_55_code 168 = .ok (.ireturn, 1) := by decide +kernel
theorem dX11_count_169 : decode prog_1_method_55_code 169 = .ok (.aload_n 0, 1) := by decide +kernel
theorem dX11_count_170 : decode prog_1_method_55_code 170 = .ok (.getfield 87, 3) := by decide +kernel
theorem dX11_count_173 : decode prog_1_method_55_code 173 = .ok (.getfield 355, 3) := by decide +kernel
theorem dX11_count_176 : decode prog_1_method_55_code 176 = .ok (.ireturn, 1) := by decide +kernel
theorem dX11_count_177 : decode prog_1_method_55_code 177 = .ok (.aload_n 0, 1) := by decide +kernel
theorem dX11_count_178 : decode prog_1_method_55_code 178 = .ok (.getfield 10, 3) := by decide +kernel
theorem dX11_count_181 : decode prog_1_method_55_code 181 = .ok (.getfield 95, 3) := by decide +kernel
theorem dX11_count_184 : decode prog_1_method_55_code 184 = .ok (.ireturn, 1) := by decide +kernel
theorem dX11_count_185 : decode prog_1_method_55_code 185 = .ok (.iconst (-1), 1) := by decide +kernel
theorem dX11_count_186 : decode prog_1_method_55_code 186 = .ok (.ireturn, 1) := by decide +kernel
noncomputable def F_X11_count_b28 (v1 : Int) (M : bM) : Option (Int) :=
  if v1 = 0 then (some (M 0 10)) else (if v1 = 1 then (some (M 2 0)) else (if v1 = 2 then (some (M 2 1)) else (if v1 = 3 then (some (M 3 0)) else (if v1 = 4 then (some (M 4 0)) else (if v1 = 5 then (some (M 6 0)) else (if v1 = 6 then (some (M 5 0)) else (if v1 = 7 then (some (M 8 0)) else (if v1 = 8 then (some (M 9 0)) else (if v1 = 9 then (some (M 9 1)) else (if v1 = 10 then (some (M 10 0)) else (if v1 = 11 then (some (M 1 1)) else (some (-1)))))))))))))
theorem t_X11_count_b28 {l : Launch} {E : bE} {Q : Int → Prop} {v1 : Int} {M : bM} (h : b_wp (F_X11_count_b28 v1 M) (Q)) : V l E xX11_count (0, 0) 28 [(0, bR 0), (1, bI v1)] [] M (b_pIp M Q) := by
  unfold F_X11_count_b28 at h
  refine v_iload_n (f := 1) 1 rfl dX11_count_28 ?_
  refine v_case (v := 0) (fun c2 => ?_) (fun c3 => ?_)
  · refine v_tsIn (tgt := 92) (0) c2 (by decide) (by decide) rfl dX11_count_29 (by decide) ?_
    replace h := b_wp_t c2 h
    refine v_aload_n (f := 0) 0 rfl dX11_count_92 ?_
    refine v_getI (kf := 10) (kz := 10) rfl kd_0 rfl ⟨by decide, by decide⟩ rfl wf_11_91 dX11_count_93 ?_
    refine v_ireturn rfl dX11_count_96 ⟨by decide, by decide⟩ ?_
    exact ⟨_, rfl, rfl, h⟩
  replace h := b_wp_f c3 h
  refine v_case (v := 1) (fun c4 => ?_) (fun c5 => ?_)
  · refine v_tsIn (tgt := 97) (1) c4 (by decide) (by decide) rfl dX11_count_29 (by decide) ?_
    replace h := b_wp_t c4 h
    refine v_aload_n (f := 0) 0 rfl dX11_count_97 ?_
    refine v_getR (kf := 1) (kz := 1) rfl kd_0 rfl ⟨by decide, by decide⟩ rfl wf_11_19 dX11_count_98 ?_
    refine v_getI (kf := 0) (kz := 0) rfl kd_2 rfl ⟨by decide, by decide⟩ rfl wf_11_249 dX11_count_101 ?_
    refine v_ireturn rfl dX11_count_104 ⟨by decide, by decide⟩ ?_
    exact ⟨_, rfl, rfl, h⟩
  replace h := b_wp_f c5 h
  refine v_case (v := 2) (fun c6 => ?_) (fun c7 => ?_)
  · refine v_tsIn (tgt := 105) (2) c6 (by decide) (by decide) rfl dX11_count_29 (by decide) ?_
    replace h := b_wp_t c6 h
    refine v_aload_n (f := 0) 0 rfl dX11_count_105 ?_
    refine v_getR (kf := 1) (kz := 1) rfl kd_0 rfl ⟨by decide, by decide⟩ rfl wf_11_19 dX11_count_106 ?_
    refine v_getI (kf := 1) (kz := 1) rfl kd_2 rfl ⟨by decide, by decide⟩ rfl wf_11_366 dX11_count_109 ?_
    refine v_ireturn rfl dX11_count_112 ⟨by decide, by decide⟩ ?_
    exact ⟨_, rfl, rfl, h⟩
  replace h := b_wp_f c7 h
  refine v_case (v := 3) (fun c8 => ?_) (fun c9 => ?_)
  · refine v_tsIn (tgt := 113) (3) c8 (by decide) (by decide) rfl dX11_count_29 (by decide) ?_
    replace h := b_wp_t c8 h
    refine v_aload_n (f := 0) 0 rfl dX11_count_113 ?_
    refine v_getR (kf := 2) (kz := 2) rfl kd_0 rfl ⟨by decide, by decide⟩ rfl wf_11_26 dX11_count_114 ?_
    refine v_getI (kf := 0) (kz := 0) rfl kd_3 rfl ⟨by decide, by decide⟩ rfl wf_11_250 dX11_count_117 ?_
    refine v_ireturn rfl dX11_count_120 ⟨by decide, by decide⟩ ?_
    exact ⟨_, rfl, rfl, h⟩
  replace h := b_wp_f c9 h
  refine v_case (v := 4) (fun c10 => ?_) (fun c11 => ?_)
  · refine v_tsIn (tgt := 121) (4) c10 (by decide) (by decide) rfl dX11_count_29 (by decide) ?_
    replace h := b_wp_t c10 h
    refine v_aload_n (f := 0) 0 rfl dX11_count_121 ?_
    refine v_getR (kf := 3) (kz := 3) rfl kd_0 rfl ⟨by decide, by decide⟩ rfl wf_11_35 dX11_count_122 ?_
    refine v_getI (kf := 0) (kz := 0) rfl kd_4 rfl ⟨by decide, by decide⟩ rfl wf_11_212 dX11_count_125 ?_
    refine v_ireturn rfl dX11_count_128 ⟨by decide, by decide⟩ ?_
    exact ⟨_, rfl, rfl, h⟩
  replace h := b_wp_f c11 h
  refine v_case (v := 5) (fun c12 => ?_) (fun c13 => ?_)
  · refine v_tsIn (tgt := 129) (5) c12 (by decide) (by decide) rfl dX11_count_29 (by decide) ?_
    replace h := b_wp_t c12 h
    refine v_aload_n (f := 0) 0 rfl dX11_count_129 ?_
    refine v_getR (kf := 5) (kz := 5) rfl kd_0 rfl ⟨by decide, by decide⟩ rfl wf_11_51 dX11_count_130 ?_
    refine v_getI (kf := 0) (kz := 0) rfl kd_6 rfl ⟨by decide, by decide⟩ rfl wf_11_243 dX11_count_133 ?_
    refine v_ireturn rfl dX11_count_136 ⟨by decide, by decide⟩ ?_
    exact ⟨_, rfl, rfl, h⟩
  replace h := b_wp_f c13 h
  refine v_case (v := 6) (fun c14 => ?_) (fun c15 => ?_)
  · refine v_tsIn (tgt := 137) (6) c14 (by decide) (by decide) rfl dX11_count_29 (by decide) ?_
    replace h := b_wp_t c14 h
    refine v_aload_n (f := 0) 0 rfl dX11_count_137 ?_
    refine v_getR (kf := 4) (kz := 4) rfl kd_0 rfl ⟨by decide, by decide⟩ rfl wf_11_42 dX11_count_138 ?_
    refine v_getI (kf := 0) (kz := 0) rfl kd_5 rfl ⟨by decide, by decide⟩ rfl wf_11_369 dX11_count_141 ?_
    refine v_ireturn rfl dX11_count_144 ⟨by decide, by decide⟩ ?_
    exact ⟨_, rfl, rfl, h⟩
  replace h := b_wp_f c15 h
  refine v_case (v := 7) (fun c16 => ?_) (fun c17 => ?_)
  · refine v_tsIn (tgt := 145) (7) c16 (by decide) (by decide) rfl dX11_count_29 (by decide) ?_
    replace h := b_wp_t c16 h
    refine v_aload_n (f := 0) 0 rfl dX11_count_145 ?_
    refine v_getR (kf := 7) (kz := 7) rfl kd_0 rfl ⟨by decide, by decide⟩ rfl wf_11_69 dX11_count_146 ?_
    refine v_getI (kf := 0) (kz := 0) rfl kd_8 rfl ⟨by decide, by decide⟩ rfl wf_11_370 dX11_count_149 ?_
    refine v_ireturn rfl dX11_count_152 ⟨by decide, by decide⟩ ?_
    exact ⟨_, rfl, rfl, h⟩
  replace h := b_wp_f c17 h
  refine v_case (v := 8) (fun c18 => ?_) (fun c19 => ?_)
  · refine v_tsIn (tgt := 153) (8) c18 (by decide) (by decide) rfl dX11_count_29 (by decide) ?_
    replace h := b_wp_t c18 h
    refine v_aload_n (f := 0) 0 rfl dX11_count_153 ?_
    refine v_getR (kf := 8) (kz := 8) rfl kd_0 rfl ⟨by decide, by decide⟩ rfl wf_11_78 dX11_count_154 ?_
    refine v_getI (kf := 0) (kz := 0) rfl kd_9 rfl ⟨by decide, by decide⟩ rfl wf_11_371 dX11_count_157 ?_
    refine v_ireturn rfl dX11_count_160 ⟨by decide, by decide⟩ ?_
    exact ⟨_, rfl, rfl, h⟩
  replace h := b_wp_f c19 h
  refine v_case (v := 9) (fun c20 => ?_) (fun c21 => ?_)
  · refine v_tsIn (tgt := 161) (9) c20 (by decide) (by decide) rfl dX11_count_29 (by decide) ?_
    replace h := b_wp_t c20 h
    refine v_aload_n (f := 0) 0 rfl dX11_count_161 ?_
    refine v_getR (kf := 8) (kz := 8) rfl kd_0 rfl ⟨by decide, by decide⟩ rfl wf_11_78 dX11_count_162 ?_
    refine v_getI (kf := 1) (kz := 1) rfl kd_9 rfl ⟨by decide, by decide⟩ rfl wf_11_372 dX11_count_165 ?_
    refine v_ireturn rfl dX11_count_168 ⟨by decide, by decide⟩ ?_
    exact ⟨_, rfl, rfl, h⟩
  replace h := b_wp_f c21 h
  refine v_case (v := 10) (fun c22 => ?_) (fun c23 => ?_)
  · refine v_tsIn (tgt := 169) (10) c22 (by decide) (by decide) rfl dX11_count_29 (by decide) ?_
    replace h := b_wp_t c22 h
    refine v_aload_n (f := 0) 0 rfl dX11_count_169 ?_
    refine v_getR (kf := 9) (kz := 9) rfl kd_0 rfl ⟨by decide, by decide⟩ rfl wf_11_87 dX11_count_170 ?_
    refine v_getI (kf := 0) (kz := 0) rfl kd_10 rfl ⟨by decide, by decide⟩ rfl wf_11_355 dX11_count_173 ?_
    refine v_ireturn rfl dX11_count_176 ⟨by decide, by decide⟩ ?_
    exact ⟨_, rfl, rfl, h⟩
  replace h := b_wp_f c23 h
  refine v_case (v := 11) (fun c24 => ?_) (fun c25 => ?_)
  · refine v_tsIn (tgt := 177) (11) c24 (by decide) (by decide) rfl dX11_count_29 (by decide) ?_
    replace h := b_wp_t c24 h
    refine v_aload_n (f := 0) 0 rfl dX11_count_177 ?_
    refine v_getR (kf := 0) (kz := 0) rfl kd_0 rfl ⟨by decide, by decide⟩ rfl wf_11_10 dX11_count_178 ?_
    refine v_getI (kf := 1) (kz := 1) rfl kd_1 rfl ⟨by decide, by decide⟩ rfl wf_11_95 dX11_count_181 ?_
    refine v_ireturn rfl dX11_count_184 ⟨by decide, by decide⟩ ?_
    exact ⟨_, rfl, rfl, h⟩
  replace h := b_wp_f c25 h
  refine v_tsOut (tgt := 185) (by omega) dX11_count_29 (by decide) ?_
  refine v_iconst ⟨by decide, by decide⟩ dX11_count_185 ?_
  refine v_ireturn rfl dX11_count_186 ⟨by decide, by decide⟩ ?_
  exact ⟨_, rfl, rfl, h⟩
noncomputable def F_X11_count (v1 : Int) (M : bM) : Option (Int) :=
  if v1 < 20 then (F_X11_count_b28 v1 M) else (if 23 < v1 then (F_X11_count_b28 v1 M) else (b_g (b_i32 (v1 - 20)) (b_bind (F_X3_countThat (v1 - 20) (M 0 10) M) (fun x28 => some x28))))
theorem t_X11_count {l : Launch} {E : bE} {Q : Int → Prop} {v1 : Int} {M : bM} (h : b_wp (F_X11_count v1 M) (Q)) : V l E xX11_count (0, 0) 0 [(0, bR 0), (1, bI v1)] [] M (b_pIp M Q) := by
  unfold F_X11_count at h
  refine v_iload_n (f := 1) 1 rfl dX11_count_0 ?_
  refine v_bipush ⟨by decide, by decide⟩ (by decide) dX11_count_1 ?_
  refine v_icmp_lt (tgt := 28) dX11_count_3 (by decide) (fun c1 => ?_) (fun c1 => ?_)
  · replace h := b_wp_t c1 h
    exact t_X11_count_b28 h
  · replace h := b_wp_f c1 h
    refine v_iload_n (f := 1) 1 rfl dX11_count_6 ?_
    refine v_bipush ⟨by decide, by decide⟩ (by decide) dX11_count_7 ?_
    refine v_icmp_gt (tgt := 28) dX11_count_9 (by decide) (fun c26 => ?_) (fun c26 => ?_)
    · replace h := b_wp_t c26 h
      exact t_X11_count_b28 h
    · replace h := b_wp_f c26 h
      obtain ⟨g27, h⟩ := b_wp_g h
      refine v_aload_n (f := 0) 0 rfl dX11_count_12 ?_
      refine v_getR (kf := 8) (kz := 8) rfl kd_0 rfl ⟨by decide, by decide⟩ rfl wf_11_78 dX11_count_13 ?_
      refine v_iload_n (f := 1) 1 rfl dX11_count_16 ?_
      refine v_bipush ⟨by decide, by decide⟩ (by decide) dX11_count_17 ?_
      refine v_isubN g27 dX11_count_19 ?_
      refine v_aload_n (f := 0) 0 rfl dX11_count_20 ?_
      refine v_getI (kf := 10) (kz := 10) rfl kd_0 rfl ⟨by decide, by decide⟩ rfl wf_11_91 dX11_count_21 ?_
      refine v_cVIp (nA := 2) (As := [bI _, bI _]) (ix := 363) (cf_X3_countThat (b_wp_b h)) rfl kd_9 rfl rfl wc_X3_countThat wm_11_363 wi_X3_countThat ws_X3_countThat wn_3 ⟨by decide, by decide, by decide⟩ rfl ⟨by decide, by decide⟩ ⟨by decide, by decide⟩ (Nat.le_of_ble_eq_true rfl) dX11_count_24 (fun x28 h => ?_)
      refine v_ireturn rfl dX11_count_27 ⟨by decide, by decide⟩ ?_
      exact ⟨_, rfl, rfl, h⟩
theorem cf_X11_count {l : Launch} {E : bE} {M : bM} {v1 : Int} {Q : Int → Prop} (h : b_wp (F_X11_count v1 M) Q) : b_C l E xX11_count yX11_count [bR 0, bI v1] M (b_pIp M Q) := b_met (by decide) ⟨rfl, rfl⟩ (Nat.le_of_ble_eq_true rfl) (fun _ _ => t_X11_count h)
abbrev xX12_in : bX := ("BurntHallModel", prog_14_method_2_code, 3, (Option.some Jvm.ClassFile.FieldType.boolean), b_rm 1 0 0, 0, "in")
abbrev yX12_in : MethodName := ⟨"BurntHallModel", "in", "(III)Z"⟩
theorem dX12_in_0 : decode prog_14_method_2_code 0 = .ok (.iload_n 0, 1) := by decide +kernel
theorem dX12_in_1 : decode prog_14_method_2_code 1 = .ok (.iload_n 1, 1) := by decide +kernel
theorem dX12_in_2 : decode prog_14_method_2_code 2 = .ok (.if_icmp .lt 12, 3) := by decide +kernel
theorem dX12_in_5 : decode prog_14_method_2_code 5 = .ok (.iload_n 0, 1) := by decide +kernel
theorem dX12_in_6 : decode prog_14_method_2_code 6 = .ok (.iload_n 2, 1) := by decide +kernel
theorem dX12_in_7 : decode prog_14_method_2_code 7 = .ok (.if_icmp .gt 7, 3) := by decide +kernel
theorem dX12_in_10 : decode prog_14_method_2_code 10 = .ok (.iconst 1, 1) := by decide +kernel
theorem dX12_in_11 : decode prog_14_method_2_code 11 = .ok (.goto 4, 3) := by decide +kernel
theorem dX12_in_14 : decode prog_14_method_2_code 14 = .ok (.iconst 0, 1) := by decide +kernel
theorem dX12_in_15 : decode prog_14_method_2_code 15 = .ok (.ireturn, 1) := by decide +kernel
noncomputable def F_X12_in (v0 : Int) (v1 : Int) (v2 : Int) (M : bM) : Option (Int) :=
  if v0 < v1 then (some 0) else (if v2 < v0 then (some 0) else (some 1))
theorem t_X12_in {l : Launch} {E : bE} {Q : Int → Prop} {v0 : Int} {v1 : Int} {v2 : Int} {M : bM} (h : b_wp (F_X12_in v0 v1 v2 M) (Q)) : V l E xX12_in (0, 0) 0 [(0, bI v0), (1, bI v1), (2, bI v2)] [] M (b_pIp M Q) := by
  unfold F_X12_in at h
  refine v_iload_n (f := 0) 0 rfl dX12_in_0 ?_
  refine v_iload_n (f := 1) 1 rfl dX12_in_1 ?_
  refine v_icmp_lt (tgt := 14) dX12_in_2 (by decide) (fun c1 => ?_) (fun c1 => ?_)
  · replace h := b_wp_t c1 h
    refine v_iconst ⟨by decide, by decide⟩ dX12_in_14 ?_
    refine v_zreturn rfl (Or.inl rfl) dX12_in_15 ⟨by decide, by decide⟩ ?_
    exact ⟨_, rfl, rfl, h⟩
  · replace h := b_wp_f c1 h
    refine v_iload_n (f := 0) 0 rfl dX12_in_5 ?_
    refine v_iload_n (f := 2) 2 rfl dX12_in_6 ?_
    refine v_icmp_gt (tgt := 14) dX12_in_7 (by decide) (fun c2 => ?_) (fun c2 => ?_)
    · replace h := b_wp_t c2 h
      refine v_iconst ⟨by decide, by decide⟩ dX12_in_14 ?_
      refine v_zreturn rfl (Or.inl rfl) dX12_in_15 ⟨by decide, by decide⟩ ?_
      exact ⟨_, rfl, rfl, h⟩
    · replace h := b_wp_f c2 h
      refine v_iconst ⟨by decide, by decide⟩ dX12_in_10 ?_
      refine v_goto (tgt := 15) dX12_in_11 (by decide) ?_
      refine v_zreturn rfl (Or.inr rfl) dX12_in_15 ⟨by decide, by decide⟩ ?_
      exact ⟨_, rfl, rfl, h⟩
theorem cf_X12_in {l : Launch} {E : bE} {M : bM} {v0 : Int} {v1 : Int} {v2 : Int} {Q : Int → Prop} (h : b_wp (F_X12_in v0 v1 v2 M) Q) : b_C l E xX12_in yX12_in [bI v0, bI v1, bI v2] M (b_pIp M Q) := b_met (by decide) ⟨rfl, rfl⟩ (Nat.le_of_ble_eq_true rfl) (fun _ _ => t_X12_in h)
abbrev xX12_isDay : bX := ("BurntHallModel", prog_14_method_3_code, 1, (Option.some Jvm.ClassFile.FieldType.boolean), b_rm 2 0 0, 0, "isDay")
abbrev yX12_isDay : MethodName := ⟨"BurntHallModel", "isDay", "(I)Z"⟩
theorem dX12_isDay_0 : decode prog_14_method_3_code 0 = .ok (.iload_n 0, 1) := by decide +kernel
theorem dX12_isDay_1 : decode prog_14_method_3_code 1 = .ok (.iconst 0, 1) := by decide +kernel
theorem dX12_isDay_2 : decode prog_14_method_3_code 2 = .ok (.sipush 9999, 3) := by decide +kernel
theorem dX12_isDay_5 : decode prog_14_method_3_code 5 = .ok (.invokestatic 279, 3) := by decide +kernel
theorem dX12_isDay_8 : decode prog_14_method_3_code 8 = .ok (.ireturn, 1) := by decide +kernel
noncomputable def F_X12_isDay (v0 : Int) (M : bM) : Option (Int) :=
  b_bind (F_X12_in v0 0 9999 M) (fun x1 => b_g (x1 = 0 ∨ x1 = 1) (some x1))
theorem t_X12_isDay {l : Launch} {E : bE} {Q : Int → Prop} {v0 : Int} {M : bM} (h : b_wp (F_X12_isDay v0 M) (Q)) : V l E xX12_isDay (0, 0) 0 [(0, bI v0)] [] M (b_pIp M Q) := by
  unfold F_X12_isDay at h
  refine v_iload_n (f := 0) 0 rfl dX12_isDay_0 ?_
  refine v_iconst ⟨by decide, by decide⟩ dX12_isDay_1 ?_
  refine v_sipush ⟨by decide, by decide⟩ (by decide) dX12_isDay_2 ?_
  refine v_cSIp (nA := 3) (As := [bI _, bI _, bI _]) (ix := 279) (cf_X12_in (b_wp_b h)) rfl wc_X12_in wm_12_279 wi_X12_in wn_12 ⟨by decide, by decide, by decide⟩ rfl ⟨by decide, by decide⟩ ⟨by decide, by decide⟩ (Nat.le_of_ble_eq_true rfl) dX12_isDay_5 (fun x1 h => ?_)
  obtain ⟨g2, h⟩ := b_wp_g h
  refine v_zreturn rfl g2 dX12_isDay_8 ⟨by decide, by decide⟩ ?_
  exact ⟨_, rfl, rfl, h⟩
theorem cf_X12_isDay {l : Launch} {E : bE} {M : bM} {v0 : Int} {Q : Int → Prop} (h : b_wp (F_X12_isDay v0 M) Q) : b_C l E xX12_isDay yX12_isDay [bI v0] M (b_pIp M Q) := b_met (by decide) ⟨rfl, rfl⟩ (Nat.le_of_ble_eq_true rfl) (fun _ _ => t_X12_isDay h)
abbrev xX12_feed : bX := ("BurntHallModel", prog_14_method_4_code, 9, (Option.some Jvm.ClassFile.FieldType.int), b_rm 1 0 0, 0, "feed")
abbrev yX12_feed : MethodName := ⟨"BurntHallModel", "feed", "(IIIII)I"⟩
theorem dX12_feed_0 : decode prog_14_method_4_code 0 = .ok (.aload_n 0, 1) := by decide +kernel
theorem dX12_feed_1 : decode prog_14_method_4_code 1 = .ok (.getfield 283, 3) := by decide +kernel
theorem dX12_feed_4 : decode prog_14_method_4_code 4 = .ok (.bipush 20, 2) := by decide +kernel
theorem dX12_feed_6 : decode prog_14_method_4_code 6 = .ok (.iadd, 1) := by decide +kernel
theorem dX12_feed_7 : decode prog_14_method_4_code 7 = .ok (.sipush 1000, 3) := by decide +kernel
theorem dX12_feed_10 : decode prog_14_method_4_code 10 = .ok (.if_icmp .le 6, 3) := by decide +kernel
theorem dX12_feed_13 : decode prog_14_method_4_code 13 = .ok (.bipush (-3), 2) := by decide +kernel
theorem dX12_feed_15 : decode prog_14_method_4_code 15 = .ok (.ireturn, 1) := by decide +kernel
theorem dX12_feed_16 : decode prog_14_method_4_code 16 = .ok (.iconst 0, 1) := by decide +kernel
theorem dX12_feed_17 : decode prog_14_method_4_code 17 = .ok (.istore 6, 2) := by decide +kernel
theorem dX12_feed_19 : decode prog_14_method_4_code 19 = .ok (.iload 6, 2) := by decide +kernel
theorem dX12_feed_21 : decode prog_14_method_4_code 21 = .ok (.iconst 5, 1) := by decide +kernel
theorem dX12_feed_22 : decode prog_14_method_4_code 22 = .ok (.if_icmp .ge 93, 3) := by decide +kernel
theorem dX12_feed_25 : decode prog_14_method_4_code 25 = .ok (.iload 6, 2) := by decide +kernel
theorem dX12_feed_27 : decode prog_14_method_4_code 27 = .ok (.ifCond .ne 7, 3) := by decide +kernel
theorem dX12_feed_30 : decode prog_14_method_4_code 30 = .ok (.iload_n 1, 1) := by decide +kernel
theorem dX12_feed_31 : decode prog_14_method_4_code 31 = .ok (.goto 36, 3) := by decide +kernel
theorem dX12_feed_34 : decode prog_14_method_4_code 34 = .ok (.iload 6, 2) := by decide +kernel
theorem dX12_feed_36 : decode prog_14_method_4_code 36 = .ok (.iconst 1, 1) := by decide +kernel
theorem dX12_feed_37 : decode prog_14_method_4_code 37 = .ok (.if_icmp .ne 7, 3) := by decide +kernel
theorem dX12_feed_40 : decode prog_14_method_4_code 40 = .ok (.iload_n 2, 1) := by decide +kernel
theorem dX12_feed_41 : decode prog_14_method_4_code 41 = .ok (.goto 26, 3) := by decide +kernel
theorem dX12_feed_44 : decode prog_14_method_4_code 44 = .ok (.iload 6, 2) := by decide +kernel
theorem dX12_feed_46 : decode prog_14_method_4_code 46 = .ok (.iconst 2, 1) := by decide +kernel
theorem dX12_feed_47 : decode prog_14_method_4_code 47 = .ok (.if_icmp .ne 7, 3) := by decide +kernel
theorem dX12_feed_50 : decode prog_14_method_4_code 50 = .ok (.iload_n 3, 1) := by decide +kernel
theorem dX12_feed_51 : decode prog_14_method_4_code 51 = .ok (.goto 16, 3) := by decide +kernel
theorem dX12_feed_54 : decode prog_14_method_4_code 54 = .ok (.iload 6, 2) := by decide +kernel
theorem dX12_feed_56 : decode prog_14_method_4_code 56 = .ok (.iconst 3, 1) := by decide +kernel
theorem dX12_feed_57 : decode prog_14_method_4_code 57 = .ok (.if_icmp .ne 8, 3) := by decide +kernel
theorem dX12_feed_60 : decode prog_14_method_4_code 60 = .ok (.iload 4, 2) := by decide +kernel
theorem dX12_feed_62 : decode prog_14_method_4_code 62 = .ok (.goto 5, 3) := by decide +kernel
theorem dX12_feed_65 : decode prog_14_method_4_code 65 = .ok (.iload 5, 2) := by decide +kernel
theorem dX12_feed_67 : decode prog_14_method_4_code 67 = .ok (.istore 7, 2) := by decide +kernel
theorem dX12_feed_69 : decode prog_14_method_4_code 69 = .ok (.bipush 24, 2) := by decide +kernel
theorem dX12_feed_71 : decode prog_14_method_4_code 71 = .ok (.istore 8, 2) := by decide +kernel
theorem dX12_feed_73 : decode prog_14_method_4_code 73 = .ok (.iload 8, 2) := by decide +kernel
theorem dX12_feed_75 : decode prog_14_method_4_code 75 = .ok (.ifCond .lt 34, 3) := by decide +kernel
theorem dX12_feed_78 : decode prog_14_method_4_code 78 = .ok (.aload_n 0, 1) := by decide +kernel
theorem dX12_feed_79 : decode prog_14_method_4_code 79 = .ok (.getfield 9, 3) := by decide +kernel
theorem dX12_feed_82 : decode prog_14_method_4_code 82 = .ok (.aload_n 0, 1) := by decide +kernel
theorem dX12_feed_83 : decode prog_14_method_4_code 83 = .ok (.getfield 283, 3) := by decide +kernel
theorem dX12_feed_86 : decode prog_14_method_4_code 86 = .ok (.iload 7, 2) := by decide +kernel
theorem dX12_feed_88 : decode prog_14_method_4_code 88 = .ok (.iload 8, 2) := by decide +kernel
theorem dX12_feed_90 : decode prog_14_method_4_code 90 = .ok (.ishr, 1) := by decide +kernel
theorem dX12_feed_91 : decode prog_14_method_4_code 91 = .ok (.i2b, 1) := by decide +kernel
theorem dX12_feed_92 : decode prog_14_method_4_code 92 = .ok (.bastore, 1) := by decide +kernel
theorem dX12_feed_93 : decode prog_14_method_4_code 93 = .ok (.aload_n 0, 1) := by decide +kernel
theorem dX12_feed_94 : decode prog_14_method_4_code 94 = .ok (.dup, 1) := by decide +kernel
theorem dX12_feed_95 : decode prog_14_method_4_code 95 = .ok (.getfield 283, 3) := by decide +kernel
theorem dX12_feed_98 : decode prog_14_method_4_code 98 = .ok (.iconst 1, 1) := by decide +kernel
theorem dX12_feed_99 : decode prog_14_method_4_code 99 = .ok (.iadd, 1) := by decide +kernel
theorem dX12_feed_100 : decode prog_14_method_4_code 100 = .ok (.putfield 283, 3) := by decide +kernel
theorem dX12_feed_103 : decode prog_14_method_4_code 103 = .ok (.iinc 8 (-8), 3) := by decide +kernel
theorem dX12_feed_106 : decode prog_14_method_4_code 106 = .ok (.goto (-33), 3) := by decide +kernel
theorem dX12_feed_109 : decode prog_14_method_4_code 109 = .ok (.iinc 6 1, 3) := by decide +kernel
theorem dX12_feed_112 : decode prog_14_method_4_code 112 = .ok (.goto (-93), 3) := by decide +kernel
theorem dX12_feed_115 : decode prog_14_method_4_code 115 = .ok (.aload_n 0, 1) := by decide +kernel
theorem dX12_feed_116 : decode prog_14_method_4_code 116 = .ok (.getfield 283, 3) := by decide +kernel
theorem dX12_feed_119 : decode prog_14_method_4_code 119 = .ok (.ireturn, 1) := by decide +kernel
abbrev A_X12_feed_19 (l : Launch) (E : bE) (Q : (Int × bM) → Prop) (v1 : Int) (v2 : Int) (v3 : Int) (v4 : Int) (v5 : Int) : (Int × bM) → Prop := (fun t : Int × bM => V l E xX12_feed (0, 0) 19 [(0, bR 11), (1, bI v1), (2, bI v2), (3, bI v3), (4, bI v4), (5, bI v5), (6, bI (t.1))] [] t.2 (b_pI Q))
abbrev X_X12_feed_19 (l : Launch) (E : bE) (Q : (Int × bM) → Prop) (v1 : Int) (v2 : Int) (v3 : Int) (v4 : Int) (v5 : Int) : (bM) → Prop := (fun t : bM => V l E xX12_feed (0, 0) 115 [(0, bR 11)] [] t (b_pI Q))
abbrev A_X12_feed_73 (l : Launch) (E : bE) (Q : (Int × bM) → Prop) (v1 : Int) (v2 : Int) (v3 : Int) (v4 : Int) (v5 : Int) (v6 : Int) (v7 : Int) : (Int × bM) → Prop := (fun t : Int × bM => V l E xX12_feed (0, 0) 73 [(0, bR 11), (1, bI v1), (2, bI v2), (3, bI v3), (4, bI v4), (5, bI v5), (6, bI v6), (7, bI v7), (8, bI (t.1))] [] t.2 (b_pI Q))
abbrev X_X12_feed_73 (l : Launch) (E : bE) (Q : (Int × bM) → Prop) (v1 : Int) (v2 : Int) (v3 : Int) (v4 : Int) (v5 : Int) (v6 : Int) (v7 : Int) : (bM) → Prop := (fun t : bM => V l E xX12_feed (0, 0) 109 [(0, bR 11), (1, bI v1), (2, bI v2), (3, bI v3), (4, bI v4), (5, bI v5), (6, bI v6)] [] t (b_pI Q))
noncomputable def F_X12_feed_s73 (v1 : Int) (v2 : Int) (v3 : Int) (v4 : Int) (v5 : Int) (v6 : Int) (v7 : Int) (v8 : Int) (M : bM) : Option ((Int × bM) ⊕ (bM)) :=
  if v8 < 0 then (some (.inr (M))) else (b_g (0 ≤ (M 11 1) ∧ (M 11 1) < 1000) (b_let (b_up M 162 (M 11 1) (i_b (i_shr v7 v8))) (fun M10 => b_g (b_i32 ((M10 11 1) + 1)) (b_let (b_up M10 11 1 ((M10 11 1) + 1)) (fun M12 => b_g (b_i32 (v8 + (-8))) (some (.inl ((v8 + (-8)), M12))))))))
theorem t_X12_feed_s73 {l : Launch} {E : bE} {Q : (Int × bM) → Prop} {v1 : Int} {v2 : Int} {v3 : Int} {v4 : Int} {v5 : Int} {v6 : Int} {v7 : Int} {v8 : Int} {M : bM} (h : b_wp (F_X12_feed_s73 v1 v2 v3 v4 v5 v6 v7 v8 M) (Sum.elim (A_X12_feed_73 l E Q v1 v2 v3 v4 v5 v6 v7) (X_X12_feed_73 l E Q v1 v2 v3 v4 v5 v6 v7))) : V l E xX12_feed (0, 0) 73 [(0, bR 11), (1, bI v1), (2, bI v2), (3, bI v3), (4, bI v4), (5, bI v5), (6, bI v6), (7, bI v7), (8, bI v8)] [] M (b_pI Q) := by
  unfold F_X12_feed_s73 at h
  refine v_iload (i := 8) 8 rfl dX12_feed_73 ?_
  refine v_if_lt (tgt := 109) dX12_feed_75 (by decide) (fun c8 => ?_) (fun c8 => ?_)
  · replace h := b_wp_t c8 h
    refine v_sub (ls2 := [(0, bR _), (1, bI _), (2, bI _), (3, bI _), (4, bI _), (5, bI _), (6, bI _)]) [0, 1, 2, 3, 4, 5, 6] rfl ?_
    exact h
  · replace h := b_wp_f c8 h
    obtain ⟨g9, h⟩ := b_wp_g h
    refine v_aload_n (f := 0) 0 rfl dX12_feed_78 ?_
    refine v_getR (kf := 0) (kz := 0) rfl kd_11 rfl ⟨by decide, by decide⟩ rfl wf_12_9 dX12_feed_79 ?_
    refine v_aload_n (f := 0) 0 rfl dX12_feed_82 ?_
    refine v_getI (kf := 1) (kz := 1) rfl kd_11 rfl ⟨by decide, by decide⟩ rfl wf_12_283 dX12_feed_83 ?_
    refine v_iload (i := 7) 7 rfl dX12_feed_86 ?_
    refine v_iload (i := 8) 8 rfl dX12_feed_88 ?_
    refine v_ishr (v := i_shr _ _) rfl dX12_feed_90 ?_
    refine v_i2b (v := i_b _) rfl dX12_feed_91 ?_
    refine v_bastore kd_162 g9 (by decide) (b_narb (i_b_r _)) dX12_feed_92 ?_
    replace h := b_wp_l h
    obtain ⟨g11, h⟩ := b_wp_g h
    refine v_aload_n (f := 0) 0 rfl dX12_feed_93 ?_
    refine v_dup rfl dX12_feed_94 ?_
    refine v_getI (kf := 1) (kz := 1) rfl kd_11 rfl ⟨by decide, by decide⟩ rfl wf_12_283 dX12_feed_95 ?_
    refine v_iconst ⟨by decide, by decide⟩ dX12_feed_98 ?_
    refine v_iaddN g11 dX12_feed_99 ?_
    refine v_putI (kf := 1) (kz := 1) rfl kd_11 rfl ⟨by decide, by decide⟩ rfl wf_12_283 rfl rfl dX12_feed_100 ?_
    replace h := b_wp_l h
    obtain ⟨g13, h⟩ := b_wp_g h
    refine v_iincN (ls' := [(8, bI _), (0, bR _), (1, bI _), (2, bI _), (3, bI _), (4, bI _), (5, bI _), (6, bI _), (7, bI _)]) 8 rfl (by decide) g13 dX12_feed_103 rfl ?_
    refine v_goto (tgt := 73) dX12_feed_106 (by decide) ?_
    refine v_sub (ls2 := [(0, bR _), (1, bI _), (2, bI _), (3, bI _), (4, bI _), (5, bI _), (6, bI _), (7, bI _), (8, bI _)]) [1, 2, 3, 4, 5, 6, 7, 8, 0] rfl ?_
    exact h
theorem l_X12_feed_73 {l : Launch} {E : bE} {Q : (Int × bM) → Prop} {v1 : Int} {v2 : Int} {v3 : Int} {v4 : Int} {v5 : Int} {v6 : Int} {v7 : Int} {s : Int × bM} (h : b_wp (b_loop (fun t => F_X12_feed_s73 v1 v2 v3 v4 v5 v6 v7 t.1 t.2) s) (X_X12_feed_73 l E Q v1 v2 v3 v4 v5 v6 v7)) : A_X12_feed_73 l E Q v1 v2 v3 v4 v5 v6 v7 s := b_loop_wp (fun t h => t_X12_feed_s73 h) s h
noncomputable def F_X12_feed_b109 (v1 : Int) (v2 : Int) (v3 : Int) (v4 : Int) (v5 : Int) (v6 : Int) (M : bM) : Option ((Int × bM) ⊕ (bM)) :=
  b_g (b_i32 (v6 + 1)) (some (.inl ((v6 + 1), M)))
theorem t_X12_feed_b109 {l : Launch} {E : bE} {Q : (Int × bM) → Prop} {v1 : Int} {v2 : Int} {v3 : Int} {v4 : Int} {v5 : Int} {v6 : Int} {M : bM} (h : b_wp (F_X12_feed_b109 v1 v2 v3 v4 v5 v6 M) (Sum.elim (A_X12_feed_19 l E Q v1 v2 v3 v4 v5) (X_X12_feed_19 l E Q v1 v2 v3 v4 v5))) : V l E xX12_feed (0, 0) 109 [(0, bR 11), (1, bI v1), (2, bI v2), (3, bI v3), (4, bI v4), (5, bI v5), (6, bI v6)] [] M (b_pI Q) := by
  unfold F_X12_feed_b109 at h
  obtain ⟨g14, h⟩ := b_wp_g h
  refine v_iincN (ls' := [(6, bI _), (0, bR _), (1, bI _), (2, bI _), (3, bI _), (4, bI _), (5, bI _)]) 6 rfl (by decide) g14 dX12_feed_109 rfl ?_
  refine v_goto (tgt := 19) dX12_feed_112 (by decide) ?_
  refine v_sub (ls2 := [(0, bR _), (1, bI _), (2, bI _), (3, bI _), (4, bI _), (5, bI _), (6, bI _)]) [1, 2, 3, 4, 5, 6, 0] rfl ?_
  exact h
noncomputable def F_X12_feed_b67 (v1 : Int) (v2 : Int) (v3 : Int) (v4 : Int) (v5 : Int) (v6 : Int) (u0 : Int) (M : bM) : Option ((Int × bM) ⊕ (bM)) :=
  b_bind (b_loop (fun t => F_X12_feed_s73 v1 v2 v3 v4 v5 v6 u0 t.1 t.2) (24, M)) (fun t => F_X12_feed_b109 v1 v2 v3 v4 v5 v6 t)
theorem t_X12_feed_b67 {l : Launch} {E : bE} {Q : (Int × bM) → Prop} {v1 : Int} {v2 : Int} {v3 : Int} {v4 : Int} {v5 : Int} {v6 : Int} {u0 : Int} {M : bM} (h : b_wp (F_X12_feed_b67 v1 v2 v3 v4 v5 v6 u0 M) (Sum.elim (A_X12_feed_19 l E Q v1 v2 v3 v4 v5) (X_X12_feed_19 l E Q v1 v2 v3 v4 v5))) : V l E xX12_feed (0, 0) 67 [(0, bR 11), (1, bI v1), (2, bI v2), (3, bI v3), (4, bI v4), (5, bI v5), (6, bI v6)] [bI u0] M (b_pI Q) := by
  unfold F_X12_feed_b67 at h
  refine v_istore (i := 7) (ls' := [(7, bI _), (0, bR _), (1, bI _), (2, bI _), (3, bI _), (4, bI _), (5, bI _), (6, bI _)]) (by decide) dX12_feed_67 rfl ?_
  refine v_bipush ⟨by decide, by decide⟩ (by decide) dX12_feed_69 ?_
  refine v_istore (i := 8) (ls' := [(8, bI _), (7, bI _), (0, bR _), (1, bI _), (2, bI _), (3, bI _), (4, bI _), (5, bI _), (6, bI _)]) (by decide) dX12_feed_71 rfl ?_
  refine v_sub (ls2 := [(0, bR _), (1, bI _), (2, bI _), (3, bI _), (4, bI _), (5, bI _), (6, bI _), (7, bI _), (8, bI _)]) [2, 3, 4, 5, 6, 7, 8, 1, 0] rfl ?_
  refine l_X12_feed_73 (b_wp_m (fun t h => ?_) (b_wp_b h))
  show V l E xX12_feed (0, 0) 109 [(0, bR 11), (1, bI _), (2, bI _), (3, bI _), (4, bI _), (5, bI _), (6, bI _)] [] _ (b_pI Q)
  exact t_X12_feed_b109 h
noncomputable def F_X12_feed_s19 (v1 : Int) (v2 : Int) (v3 : Int) (v4 : Int) (v5 : Int) (v6 : Int) (M : bM) : Option ((Int × bM) ⊕ (bM)) :=
  if 5 ≤ v6 then (some (.inr (M))) else (if v6 = 0 then (F_X12_feed_b67 v1 v2 v3 v4 v5 v6 v1 M) else (if v6 = 1 then (F_X12_feed_b67 v1 v2 v3 v4 v5 v6 v2 M) else (if v6 = 2 then (F_X12_feed_b67 v1 v2 v3 v4 v5 v6 v3 M) else (if v6 = 3 then (F_X12_feed_b67 v1 v2 v3 v4 v5 v6 v4 M) else (F_X12_feed_b67 v1 v2 v3 v4 v5 v6 v5 M)))))
theorem t_X12_feed_s19 {l : Launch} {E : bE} {Q : (Int × bM) → Prop} {v1 : Int} {v2 : Int} {v3 : Int} {v4 : Int} {v5 : Int} {v6 : Int} {M : bM} (h : b_wp (F_X12_feed_s19 v1 v2 v3 v4 v5 v6 M) (Sum.elim (A_X12_feed_19 l E Q v1 v2 v3 v4 v5) (X_X12_feed_19 l E Q v1 v2 v3 v4 v5))) : V l E xX12_feed (0, 0) 19 [(0, bR 11), (1, bI v1), (2, bI v2), (3, bI v3), (4, bI v4), (5, bI v5), (6, bI v6)] [] M (b_pI Q) := by
  unfold F_X12_feed_s19 at h
  refine v_iload (i := 6) 6 rfl dX12_feed_19 ?_
  refine v_iconst ⟨by decide, by decide⟩ dX12_feed_21 ?_
  refine v_icmp_ge (tgt := 115) dX12_feed_22 (by decide) (fun c3 => ?_) (fun c3 => ?_)
  · replace h := b_wp_t c3 h
    refine v_sub (ls2 := [(0, bR _)]) [0] rfl ?_
    exact h
  · replace h := b_wp_f c3 h
    refine v_iload (i := 6) 6 rfl dX12_feed_25 ?_
    refine v_if_ne (tgt := 34) dX12_feed_27 (by decide) (fun c4 => ?_) (fun c4 => ?_)
    · replace h := b_wp_f c4 h
      refine v_iload (i := 6) 6 rfl dX12_feed_34 ?_
      refine v_iconst ⟨by decide, by decide⟩ dX12_feed_36 ?_
      refine v_icmp_ne (tgt := 44) dX12_feed_37 (by decide) (fun c5 => ?_) (fun c5 => ?_)
      · replace h := b_wp_f c5 h
        refine v_iload (i := 6) 6 rfl dX12_feed_44 ?_
        refine v_iconst ⟨by decide, by decide⟩ dX12_feed_46 ?_
        refine v_icmp_ne (tgt := 54) dX12_feed_47 (by decide) (fun c6 => ?_) (fun c6 => ?_)
        · replace h := b_wp_f c6 h
          refine v_iload (i := 6) 6 rfl dX12_feed_54 ?_
          refine v_iconst ⟨by decide, by decide⟩ dX12_feed_56 ?_
          refine v_icmp_ne (tgt := 65) dX12_feed_57 (by decide) (fun c7 => ?_) (fun c7 => ?_)
          · replace h := b_wp_f c7 h
            refine v_iload (i := 5) 5 rfl dX12_feed_65 ?_
            exact t_X12_feed_b67 h
          · replace h := b_wp_t c7 h
            refine v_iload (i := 4) 4 rfl dX12_feed_60 ?_
            refine v_goto (tgt := 67) dX12_feed_62 (by decide) ?_
            exact t_X12_feed_b67 h
        · replace h := b_wp_t c6 h
          refine v_iload_n (f := 3) 3 rfl dX12_feed_50 ?_
          refine v_goto (tgt := 67) dX12_feed_51 (by decide) ?_
          exact t_X12_feed_b67 h
      · replace h := b_wp_t c5 h
        refine v_iload_n (f := 2) 2 rfl dX12_feed_40 ?_
        refine v_goto (tgt := 67) dX12_feed_41 (by decide) ?_
        exact t_X12_feed_b67 h
    · replace h := b_wp_t c4 h
      refine v_iload_n (f := 1) 1 rfl dX12_feed_30 ?_
      refine v_goto (tgt := 67) dX12_feed_31 (by decide) ?_
      exact t_X12_feed_b67 h
theorem l_X12_feed_19 {l : Launch} {E : bE} {Q : (Int × bM) → Prop} {v1 : Int} {v2 : Int} {v3 : Int} {v4 : Int} {v5 : Int} {s : Int × bM} (h : b_wp (b_loop (fun t => F_X12_feed_s19 v1 v2 v3 v4 v5 t.1 t.2) s) (X_X12_feed_19 l E Q v1 v2 v3 v4 v5)) : A_X12_feed_19 l E Q v1 v2 v3 v4 v5 s := b_loop_wp (fun t h => t_X12_feed_s19 h) s h
noncomputable def F_X12_feed_b115 (M : bM) : Option (Int × bM) :=
  some ((M 11 1), M)
theorem t_X12_feed_b115 {l : Launch} {E : bE} {Q : (Int × bM) → Prop} {M : bM} (h : b_wp (F_X12_feed_b115 M) (Q)) : V l E xX12_feed (0, 0) 115 [(0, bR 11)] [] M (b_pI Q) := by
  unfold F_X12_feed_b115 at h
  refine v_aload_n (f := 0) 0 rfl dX12_feed_115 ?_
  refine v_getI (kf := 1) (kz := 1) rfl kd_11 rfl ⟨by decide, by decide⟩ rfl wf_12_283 dX12_feed_116 ?_
  refine v_ireturn rfl dX12_feed_119 ⟨by decide, by decide⟩ ?_
  exact ⟨_, rfl, h⟩
noncomputable def F_X12_feed (v1 : Int) (v2 : Int) (v3 : Int) (v4 : Int) (v5 : Int) (M : bM) : Option (Int × bM) :=
  b_g (b_i32 ((M 11 1) + 20)) (if ((M 11 1) + 20) ≤ 1000 then (b_bind (b_loop (fun t => F_X12_feed_s19 v1 v2 v3 v4 v5 t.1 t.2) (0, M)) (fun t => F_X12_feed_b115 t)) else (some ((-3), M)))
theorem t_X12_feed {l : Launch} {E : bE} {Q : (Int × bM) → Prop} {v1 : Int} {v2 : Int} {v3 : Int} {v4 : Int} {v5 : Int} {M : bM} (h : b_wp (F_X12_feed v1 v2 v3 v4 v5 M) (Q)) : V l E xX12_feed (0, 0) 0 [(0, bR 11), (1, bI v1), (2, bI v2), (3, bI v3), (4, bI v4), (5, bI v5)] [] M (b_pI Q) := by
  unfold F_X12_feed at h
  obtain ⟨g1, h⟩ := b_wp_g h
  refine v_aload_n (f := 0) 0 rfl dX12_feed_0 ?_
  refine v_getI (kf := 1) (kz := 1) rfl kd_11 rfl ⟨by decide, by decide⟩ rfl wf_12_283 dX12_feed_1 ?_
  refine v_bipush ⟨by decide, by decide⟩ (by decide) dX12_feed_4 ?_
  refine v_iaddN g1 dX12_feed_6 ?_
  refine v_sipush ⟨by decide, by decide⟩ (by decide) dX12_feed_7 ?_
  refine v_icmp_le (tgt := 16) dX12_feed_10 (by decide) (fun c2 => ?_) (fun c2 => ?_)
  · replace h := b_wp_t c2 h
    refine v_iconst ⟨by decide, by decide⟩ dX12_feed_16 ?_
    refine v_istore (i := 6) (ls' := [(6, bI _), (0, bR _), (1, bI _), (2, bI _), (3, bI _), (4, bI _), (5, bI _)]) (by decide) dX12_feed_17 rfl ?_
    refine v_sub (ls2 := [(0, bR _), (1, bI _), (2, bI _), (3, bI _), (4, bI _), (5, bI _), (6, bI _)]) [1, 2, 3, 4, 5, 6, 0] rfl ?_
    refine l_X12_feed_19 (b_wp_m (fun t h => ?_) (b_wp_b h))
    show V l E xX12_feed (0, 0) 115 [(0, bR 11)] [] _ (b_pI Q)
    exact t_X12_feed_b115 h
  · replace h := b_wp_f c2 h
    refine v_bipush ⟨by decide, by decide⟩ (by decide) dX12_feed_13 ?_
    refine v_ireturn rfl dX12_feed_15 ⟨by decide, by decide⟩ ?_
    exact ⟨_, rfl, h⟩
theorem cf_X12_feed {l : Launch} {E : bE} {M : bM} {v1 : Int} {v2 : Int} {v3 : Int} {v4 : Int} {v5 : Int} {Q : (Int × bM) → Prop} (h : b_wp (F_X12_feed v1 v2 v3 v4 v5 M) Q) : b_C l E xX12_feed yX12_feed [bR 11, bI v1, bI v2, bI v3, bI v4, bI v5] M (b_pI Q) := b_met (by decide) ⟨rfl, rfl⟩ (Nat.le_of_ble_eq_true rfl) (fun _ _ => t_X12_feed h)
