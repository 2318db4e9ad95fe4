abbrev xX2_layRow : bX := ("BurntHall$Chains", prog_4_method_22_code, 6, (Option.none : Option Jvm.ClassFile.FieldType), b_rm 2 0 0, 0, "layRow")
abbrev yX2_layRow : MethodName := ⟨"BurntHall$Chains", "layRow", "(I)V"⟩
theorem dX2_layRow_0 : decode prog_4_method_22_code 0 = .ok (.aload_n 0, 1) := by decide +kernel
theorem dX2_layRow_1 : decode prog_4_method_22_code 1 = .ok (.getfield 46, 3) := by decide +kernel
theorem dX2_layRow_4 : decode prog_4_method_22_code 4 = .ok (.iconst 3, 1) := by decide +kernel
theorem dX2_layRow_5 : decode prog_4_method_22_code 5 = .ok (.iaload, 1) := by decide +kernel
theorem dX2_layRow_6 : decode prog_4_method_22_code 6 = .ok (.istore_n 2, 1) := by decide +kernel
theorem dX2_layRow_7 : decode prog_4_method_22_code 7 = .ok (.bipush 30, 2) := by decide +kernel
theorem dX2_layRow_9 : decode prog_4_method_22_code 9 = .ok (.iload_n 2, 1) := by decide +kernel
theorem dX2_layRow_10 : decode prog_4_method_22_code 10 = .ok (.iadd, 1) := by decide +kernel
theorem dX2_layRow_11 : decode prog_4_method_22_code 11 = .ok (.istore_n 3, 1) := by decide +kernel
theorem dX2_layRow_12 : decode prog_4_method_22_code 12 = .ok (.aload_n 0, 1) := by decide +kernel
theorem dX2_layRow_13 : decode prog_4_method_22_code 13 = .ok (.getfield 56, 3) := by decide +kernel
theorem dX2_layRow_16 : decode prog_4_method_22_code 16 = .ok (.iload_n 2, 1) := by decide +kernel
theorem dX2_layRow_17 : decode prog_4_method_22_code 17 = .ok (.invokevirtual 204, 3) := by decide +kernel
theorem dX2_layRow_20 : decode prog_4_method_22_code 20 = .ok (.ifCond .eq 15, 3) := by decide +kernel
theorem dX2_layRow_23 : decode prog_4_method_22_code 23 = .ok (.aload_n 0, 1) := by decide +kernel
theorem dX2_layRow_24 : decode prog_4_method_22_code 24 = .ok (.getfield 56, 3) := by decide +kernel
theorem dX2_layRow_27 : decode prog_4_method_22_code 27 = .ok (.getfield 180, 3) := by decide +kernel
theorem dX2_layRow_30 : decode prog_4_method_22_code 30 = .ok (.iload_n 2, 1) := by decide +kernel
theorem dX2_layRow_31 : decode prog_4_method_22_code 31 = .ok (.iaload, 1) := by decide +kernel
theorem dX2_layRow_32 : decode prog_4_method_22_code 32 = .ok (.goto 4, 3) := by decide +kernel
theorem dX2_layRow_35 : decode prog_4_method_22_code 35 = .ok (.iconst 0, 1) := by decide +kernel
theorem dX2_layRow_36 : decode prog_4_method_22_code 36 = .ok (.istore 4, 2) := by decide +kernel
theorem dX2_layRow_38 : decode prog_4_method_22_code 38 = .ok (.iconst 0, 1) := by decide +kernel
theorem dX2_layRow_39 : decode prog_4_method_22_code 39 = .ok (.istore 5, 2) := by decide +kernel
theorem dX2_layRow_41 : decode prog_4_method_22_code 41 = .ok (.iload 5, 2) := by decide +kernel
theorem dX2_layRow_43 : decode prog_4_method_22_code 43 = .ok (.iload_n 1, 1) := by decide +kernel
theorem dX2_layRow_44 : decode prog_4_method_22_code 44 = .ok (.if_icmp .ge 59, 3) := by decide +kernel
theorem dX2_layRow_47 : decode prog_4_method_22_code 47 = .ok (.iload_n 3, 1) := by decide +kernel
theorem dX2_layRow_48 : decode prog_4_method_22_code 48 = .ok (.iconst (-1), 1) := by decide +kernel
theorem dX2_layRow_49 : decode prog_4_method_22_code 49 = .ok (.if_icmp .eq 54, 3) := by decide +kernel
theorem dX2_layRow_52 : decode prog_4_method_22_code 52 = .ok (.aload_n 0, 1) := by decide +kernel
theorem dX2_layRow_53 : decode prog_4_method_22_code 53 = .ok (.iload_n 3, 1) := by decide +kernel
theorem dX2_layRow_54 : decode prog_4_method_22_code 54 = .ok (.iload 4, 2) := by decide +kernel
theorem dX2_layRow_56 : decode prog_4_method_22_code 56 = .ok (.iload_n 1, 1) := by decide +kernel
theorem dX2_layRow_57 : decode prog_4_method_22_code 57 = .ok (.iload 5, 2) := by decide +kernel
theorem dX2_layRow_59 : decode prog_4_method_22_code 59 = .ok (.isub, 1) := by decide +kernel
theorem dX2_layRow_60 : decode prog_4_method_22_code 60 = .ok (.invokevirtual 200, 3) := by decide +kernel
theorem dX2_layRow_63 : decode prog_4_method_22_code 63 = .ok (.istore_n 3, 1) := by decide +kernel
theorem dX2_layRow_64 : decode prog_4_method_22_code 64 = .ok (.iload_n 3, 1) := by decide +kernel
theorem dX2_layRow_65 : decode prog_4_method_22_code 65 = .ok (.iconst (-1), 1) := by decide +kernel
theorem dX2_layRow_66 : decode prog_4_method_22_code 66 = .ok (.if_icmp .eq 31, 3) := by decide +kernel
theorem dX2_layRow_69 : decode prog_4_method_22_code 69 = .ok (.aload_n 0, 1) := by decide +kernel
theorem dX2_layRow_70 : decode prog_4_method_22_code 70 = .ok (.getfield 46, 3) := by decide +kernel
theorem dX2_layRow_73 : decode prog_4_method_22_code 73 = .ok (.iconst 4, 1) := by decide +kernel
theorem dX2_layRow_74 : decode prog_4_method_22_code 74 = .ok (.iload 5, 2) := by decide +kernel
theorem dX2_layRow_76 : decode prog_4_method_22_code 76 = .ok (.iadd, 1) := by decide +kernel
theorem dX2_layRow_77 : decode prog_4_method_22_code 77 = .ok (.aload_n 0, 1) := by decide +kernel
theorem dX2_layRow_78 : decode prog_4_method_22_code 78 = .ok (.getfield 13, 3) := by decide +kernel
theorem dX2_layRow_81 : decode prog_4_method_22_code 81 = .ok (.iload_n 3, 1) := by decide +kernel
theorem dX2_layRow_82 : decode prog_4_method_22_code 82 = .ok (.iaload, 1) := by decide +kernel
theorem dX2_layRow_83 : decode prog_4_method_22_code 83 = .ok (.iastore, 1) := by decide +kernel
theorem dX2_layRow_84 : decode prog_4_method_22_code 84 = .ok (.iload 4, 2) := by decide +kernel
theorem dX2_layRow_86 : decode prog_4_method_22_code 86 = .ok (.aload_n 0, 1) := by decide +kernel
theorem dX2_layRow_87 : decode prog_4_method_22_code 87 = .ok (.getfield 17, 3) := by decide +kernel
theorem dX2_layRow_90 : decode prog_4_method_22_code 90 = .ok (.iload_n 3, 1) := by decide +kernel
theorem dX2_layRow_91 : decode prog_4_method_22_code 91 = .ok (.iaload, 1) := by decide +kernel
theorem dX2_layRow_92 : decode prog_4_method_22_code 92 = .ok (.invokestatic 197, 3) := by decide +kernel
theorem dX2_layRow_95 : decode prog_4_method_22_code 95 = .ok (.istore 4, 2) := by decide +kernel
theorem dX2_layRow_97 : decode prog_4_method_22_code 97 = .ok (.iinc 5 1, 3) := by decide +kernel
theorem dX2_layRow_100 : decode prog_4_method_22_code 100 = .ok (.goto (-59), 3) := by decide +kernel
theorem dX2_layRow_103 : decode prog_4_method_22_code 103 = .ok (.return_, 1) := by decide +kernel
abbrev A_X2_layRow_41 (l : Launch) (E : bE) (Q : bM → Prop) (v1 : Int) : (Int × Int × Int × bM) → Prop := (fun t : Int × Int × Int × bM => V l E xX2_layRow (0, 0) 41 [(0, bR 7), (1, bI v1), (3, bI (t.1)), (4, bI (t.2.1)), (5, bI (t.2.2.1))] [] t.2.2.2 (b_pV Q))
abbrev X_X2_layRow_41 (l : Launch) (E : bE) (Q : bM → Prop) (v1 : Int) : (bM) → Prop := (fun t : bM => V l E xX2_layRow (0, 0) 103 [] [] t (b_pV Q))
noncomputable def F_X2_layRow_s41 (v1 : Int) (v3 : Int) (v4 : Int) (v5 : Int) (M : bM) : Option ((Int × Int × Int × bM) ⊕ (bM)) :=
  if v1 ≤ v5 then (some (.inr (M))) else (if v3 = (-1) then (some (.inr (M))) else (b_g (b_i32 (v1 - v5)) (b_bind (F_X2_leastNext v3 v4 (v1 - v5) M) (fun x8 => if x8 = (-1) then (b_g (b_i32 (v5 + 1)) (some (.inl (x8, v4, (v5 + 1), M)))) else (b_g ((b_i32 (4 + v5)) ∧ (0 ≤ x8 ∧ x8 < 30) ∧ (0 ≤ (4 + v5) ∧ (4 + v5) < 12)) (b_let (b_up M 140 (4 + v5) (M 130 x8)) (fun M14 => b_g (0 ≤ x8 ∧ x8 < 30) (b_let ((max v4 (M14 131 x8))) (fun y16 => b_g (b_i32 (v5 + 1)) (some (.inl (x8, y16, (v5 + 1), M14))))))))))))
theorem t_X2_layRow_s41 {l : Launch} {E : bE} {Q : bM → Prop} {v1 : Int} {v3 : Int} {v4 : Int} {v5 : Int} {M : bM} (h : b_wp (F_X2_layRow_s41 v1 v3 v4 v5 M) (Sum.elim (A_X2_layRow_41 l E Q v1) (X_X2_layRow_41 l E Q v1))) : V l E xX2_layRow (0, 0) 41 [(0, bR 7), (1, bI v1), (3, bI v3), (4, bI v4), (5, bI v5)] [] M (b_pV Q) := by
  unfold F_X2_layRow_s41 at h
  refine v_iload (i := 5) 4 rfl dX2_layRow_41 ?_
  refine v_iload_n (f := 1) 1 rfl dX2_layRow_43 ?_
  refine v_icmp_ge (tgt := 103) dX2_layRow_44 (by decide) (fun c5 => ?_) (fun c5 => ?_)
  · replace h := b_wp_t c5 h
    refine v_sub (ls2 := []) [] rfl ?_
    exact h
  · replace h := b_wp_f c5 h
    refine v_iload_n (f := 3) 2 rfl dX2_layRow_47 ?_
    refine v_iconst ⟨by decide, by decide⟩ dX2_layRow_48 ?_
    refine v_icmp_eq (tgt := 103) dX2_layRow_49 (by decide) (fun c6 => ?_) (fun c6 => ?_)
    · replace h := b_wp_t c6 h
      refine v_sub (ls2 := []) [] rfl ?_
      exact h
    · replace h := b_wp_f c6 h
      obtain ⟨g7, h⟩ := b_wp_g h
      refine v_aload_n (f := 0) 0 rfl dX2_layRow_52 ?_
      refine v_iload_n (f := 3) 2 rfl dX2_layRow_53 ?_
      refine v_iload (i := 4) 3 rfl dX2_layRow_54 ?_
      refine v_iload_n (f := 1) 1 rfl dX2_layRow_56 ?_
      refine v_iload (i := 5) 4 rfl dX2_layRow_57 ?_
      refine v_isubN g7 dX2_layRow_59 ?_
      refine v_cVIp (nA := 3) (As := [bI _, bI _, bI _]) (ix := 200) (cf_X2_leastNext (b_wp_b h)) rfl kd_7 rfl rfl wc_X2_leastNext wm_2_200 wi_X2_leastNext ws_X2_leastNext wn_2 ⟨by decide, by decide, by decide⟩ rfl ⟨by decide, by decide⟩ ⟨by decide, by decide⟩ (Nat.le_of_ble_eq_true rfl) dX2_layRow_60 (fun x8 h => ?_)
      refine v_istore_n (g := 3) (i := 3) (ls' := [(3, bI _), (0, bR _), (1, bI _), (4, bI _), (5, bI _)]) rfl (by decide) dX2_layRow_63 rfl ?_
      refine v_iload_n (f := 3) 0 rfl dX2_layRow_64 ?_
      refine v_iconst ⟨by decide, by decide⟩ dX2_layRow_65 ?_
      refine v_icmp_eq (tgt := 97) dX2_layRow_66 (by decide) (fun c9 => ?_) (fun c9 => ?_)
      · replace h := b_wp_t c9 h
        obtain ⟨g10, h⟩ := b_wp_g h
        refine v_iincN (ls' := [(5, bI _), (3, bI _), (0, bR _), (1, bI _), (4, bI _)]) 4 rfl (by decide) g10 dX2_layRow_97 rfl ?_
        refine v_goto (tgt := 41) dX2_layRow_100 (by decide) ?_
        refine v_sub (ls2 := [(0, bR _), (1, bI _), (3, bI _), (4, bI _), (5, bI _)]) [2, 3, 1, 4, 0] rfl ?_
        exact h
      · replace h := b_wp_f c9 h
        obtain ⟨⟨g11, g12, g13⟩, h⟩ := b_wp_g h
        refine v_aload_n (f := 0) 1 rfl dX2_layRow_69 ?_
        refine v_getR (kf := 18) (kz := 18) rfl kd_7 rfl ⟨by decide, by decide⟩ rfl wf_2_46 dX2_layRow_70 ?_
        refine v_iconst ⟨by decide, by decide⟩ dX2_layRow_73 ?_
        refine v_iload (i := 5) 4 rfl dX2_layRow_74 ?_
        refine v_iaddN g11 dX2_layRow_76 ?_
        refine v_aload_n (f := 0) 1 rfl dX2_layRow_77 ?_
        refine v_getR (kf := 7) (kz := 7) rfl kd_7 rfl ⟨by decide, by decide⟩ rfl wf_2_13 dX2_layRow_78 ?_
        refine v_iload_n (f := 3) 0 rfl dX2_layRow_81 ?_
        refine v_iaload kd_130 g12 (by decide) dX2_layRow_82 ?_
        refine v_iastore kd_140 g13 (by decide) dX2_layRow_83 ?_
        replace h := b_wp_l h
        obtain ⟨g15, h⟩ := b_wp_g h
        refine v_iload (i := 4) 3 rfl dX2_layRow_84 ?_
        refine v_aload_n (f := 0) 1 rfl dX2_layRow_86 ?_
        refine v_getR (kf := 8) (kz := 8) rfl kd_7 rfl ⟨by decide, by decide⟩ rfl wf_2_17 dX2_layRow_87 ?_
        refine v_iload_n (f := 3) 0 rfl dX2_layRow_90 ?_
        refine v_iaload kd_131 g15 (by decide) dX2_layRow_91 ?_
        refine v_mmax wm_2_197 wma_max wmi wmc_max ⟨by decide, by decide⟩ ⟨by decide, by decide⟩ (Nat.le_of_ble_eq_true rfl) dX2_layRow_92 ?_
        replace h := b_wp_l h
        obtain ⟨g17, h⟩ := b_wp_g h
        refine v_istore (i := 4) (ls' := [(4, bI _), (3, bI _), (0, bR _), (1, bI _), (5, bI _)]) (by decide) dX2_layRow_95 rfl ?_
        refine v_iincN (ls' := [(5, bI _), (4, bI _), (3, bI _), (0, bR _), (1, bI _)]) 4 rfl (by decide) g17 dX2_layRow_97 rfl ?_
        refine v_goto (tgt := 41) dX2_layRow_100 (by decide) ?_
        refine v_sub (ls2 := [(0, bR _), (1, bI _), (3, bI _), (4, bI _), (5, bI _)]) [3, 4, 2, 1, 0] rfl ?_
        exact h
theorem l_X2_layRow_41 {l : Launch} {E : bE} {Q : bM → Prop} {v1 : Int} {s : Int × Int × Int × bM} (h : b_wp (b_loop (fun t => F_X2_layRow_s41 v1 t.1 t.2.1 t.2.2.1 t.2.2.2) s) (X_X2_layRow_41 l E Q v1)) : A_X2_layRow_41 l E Q v1 s := b_loop_wp (fun t h => t_X2_layRow_s41 h) s h
noncomputable def F_X2_layRow_b103 (M : bM) : Option (bM) :=
  some M
theorem t_X2_layRow_b103 {l : Launch} {E : bE} {Q : bM → Prop} {M : bM} (h : b_wp (F_X2_layRow_b103 M) (Q)) : V l E xX2_layRow (0, 0) 103 [] [] M (b_pV Q) := by
  unfold F_X2_layRow_b103 at h
  refine v_return rfl dX2_layRow_103 ⟨by decide, by decide⟩ ?_
  exact ⟨rfl, h⟩
noncomputable def F_X2_layRow_b36 (v1 : Int) (v3 : Int) (u0 : Int) (M : bM) : Option (bM) :=
  b_bind (b_loop (fun t => F_X2_layRow_s41 v1 t.1 t.2.1 t.2.2.1 t.2.2.2) (v3, u0, 0, M)) (fun t => F_X2_layRow_b103 t)
theorem t_X2_layRow_b36 {l : Launch} {E : bE} {Q : bM → Prop} {v1 : Int} {v3 : Int} {u0 : Int} {M : bM} (h : b_wp (F_X2_layRow_b36 v1 v3 u0 M) (Q)) : V l E xX2_layRow (0, 0) 36 [(0, bR 7), (1, bI v1), (3, bI v3)] [bI u0] M (b_pV Q) := by
  unfold F_X2_layRow_b36 at h
  refine v_istore (i := 4) (ls' := [(4, bI _), (0, bR _), (1, bI _), (3, bI _)]) (by decide) dX2_layRow_36 rfl ?_
  refine v_iconst ⟨by decide, by decide⟩ dX2_layRow_38 ?_
  refine v_istore (i := 5) (ls' := [(5, bI _), (4, bI _), (0, bR _), (1, bI _), (3, bI _)]) (by decide) dX2_layRow_39 rfl ?_
  refine v_sub (ls2 := [(0, bR _), (1, bI _), (3, bI _), (4, bI _), (5, bI _)]) [2, 3, 4, 1, 0] rfl ?_
  refine l_X2_layRow_41 (b_wp_m (fun t h => ?_) (b_wp_b h))
  show V l E xX2_layRow (0, 0) 103 [] [] _ (b_pV Q)
  exact t_X2_layRow_b103 h
noncomputable def F_X2_layRow (v1 : Int) (M : bM) : Option (bM) :=
  b_g (b_i32 (30 + (M 140 3))) (b_let ((30 + (M 140 3))) (fun y2 => b_bind (F_X5_has (M 140 3) M) (fun x3 => if x3 = 0 then (F_X2_layRow_b36 v1 y2 0 M) else (b_g (0 ≤ (M 140 3) ∧ (M 140 3) < 60) (F_X2_layRow_b36 v1 y2 (M 93 (M 140 3)) M)))))
theorem t_X2_layRow {l : Launch} {E : bE} {Q : bM → Prop} {v1 : Int} {M : bM} (h : b_wp (F_X2_layRow v1 M) (Q)) : V l E xX2_layRow (0, 0) 0 [(0, bR 7), (1, bI v1)] [] M (b_pV Q) := by
  unfold F_X2_layRow at h
  obtain ⟨g1, h⟩ := b_wp_g h
  refine v_aload_n (f := 0) 0 rfl dX2_layRow_0 ?_
  refine v_getR (kf := 18) (kz := 18) rfl kd_7 rfl ⟨by decide, by decide⟩ rfl wf_2_46 dX2_layRow_1 ?_
  refine v_iconst ⟨by decide, by decide⟩ dX2_layRow_4 ?_
  refine v_iaload kd_140 ⟨by decide, by decide⟩ (by decide) dX2_layRow_5 ?_
  refine v_istore_n (g := 2) (i := 2) (ls' := [(2, bI _), (0, bR _), (1, bI _)]) rfl (by decide) dX2_layRow_6 rfl ?_
  refine v_bipush ⟨by decide, by decide⟩ (by decide) dX2_layRow_7 ?_
  refine v_iload_n (f := 2) 0 rfl dX2_layRow_9 ?_
  refine v_iaddN g1 dX2_layRow_10 ?_
  replace h := b_wp_l h
  refine v_istore_n (g := 3) (i := 3) (ls' := [(3, bI _), (2, bI _), (0, bR _), (1, bI _)]) rfl (by decide) dX2_layRow_11 rfl ?_
  refine v_aload_n (f := 0) 2 rfl dX2_layRow_12 ?_
  refine v_getR (kf := 1) (kz := 1) rfl kd_7 rfl ⟨by decide, by decide⟩ rfl wf_2_56 dX2_layRow_13 ?_
  refine v_iload_n (f := 2) 1 rfl dX2_layRow_16 ?_
  refine v_cVIp (nA := 1) (As := [bI _]) (ix := 204) (cf_X5_has (b_wp_b h)) rfl kd_3 rfl rfl wc_X5_has wm_2_204 wi_X5_has ws_X5_has wn_5 ⟨by decide, by decide, by decide⟩ rfl ⟨by decide, by decide⟩ ⟨by decide, by decide⟩ (Nat.le_of_ble_eq_true rfl) dX2_layRow_17 (fun x3 h => ?_)
  refine v_if_eq (tgt := 35) dX2_layRow_20 (by decide) (fun c4 => ?_) (fun c4 => ?_)
  · replace h := b_wp_t c4 h
    refine v_iconst ⟨by decide, by decide⟩ dX2_layRow_35 ?_
    refine v_sub (ls2 := [(0, bR _), (1, bI _), (3, bI _)]) [2, 3, 0] rfl ?_
    exact t_X2_layRow_b36 h
  · replace h := b_wp_f c4 h
    obtain ⟨g18, h⟩ := b_wp_g h
    refine v_aload_n (f := 0) 2 rfl dX2_layRow_23 ?_
    refine v_getR (kf := 1) (kz := 1) rfl kd_7 rfl ⟨by decide, by decide⟩ rfl wf_2_56 dX2_layRow_24 ?_
    refine v_getR (kf := 9) (kz := 9) rfl kd_3 rfl ⟨by decide, by decide⟩ rfl wf_2_180 dX2_layRow_27 ?_
    refine v_iload_n (f := 2) 1 rfl dX2_layRow_30 ?_
    refine v_iaload kd_93 g18 (by decide) dX2_layRow_31 ?_
    refine v_goto (tgt := 36) dX2_layRow_32 (by decide) ?_
    refine v_sub (ls2 := [(0, bR _), (1, bI _), (3, bI _)]) [2, 3, 0] rfl ?_
    exact t_X2_layRow_b36 h
theorem cf_X2_layRow {l : Launch} {E : bE} {M : bM} {v1 : Int} {Q : bM → Prop} (h : b_wp (F_X2_layRow v1 M) Q) : b_C l E xX2_layRow yX2_layRow [bR 7, bI v1] M (b_pV Q) := b_met (by decide) ⟨rfl, rfl⟩ (Nat.le_of_ble_eq_true rfl) (fun _ _ => t_X2_layRow h)
abbrev xX2_search : bX := ("BurntHall$Chains", prog_4_method_4_code, 6, (Option.some Jvm.ClassFile.FieldType.int), b_rm 5 0 0, 0, "search")
abbrev yX2_search : MethodName := ⟨"BurntHall$Chains", "search", "(II)I"⟩
theorem dX2_search_0 : decode prog_4_method_4_code 0 = .ok (.aload_n 0, 1) := by decide +kernel
theorem dX2_search_1 : decode prog_4_method_4_code 1 = .ok (.iload_n 1, 1) := by decide +kernel
theorem dX2_search_2 : decode prog_4_method_4_code 2 = .ok (.iload_n 2, 1) := by decide +kernel
theorem dX2_search_3 : decode prog_4_method_4_code 3 = .ok (.invokevirtual 70, 3) := by decide +kernel
theorem dX2_search_6 : decode prog_4_method_4_code 6 = .ok (.aload_n 0, 1) := by decide +kernel
theorem dX2_search_7 : decode prog_4_method_4_code 7 = .ok (.invokevirtual 74, 3) := by decide +kernel
theorem dX2_search_10 : decode prog_4_method_4_code 10 = .ok (.istore_n 3, 1) := by decide +kernel
theorem dX2_search_11 : decode prog_4_method_4_code 11 = .ok (.aload_n 0, 1) := by decide +kernel
theorem dX2_search_12 : decode prog_4_method_4_code 12 = .ok (.iload_n 3, 1) := by decide +kernel
theorem dX2_search_13 : decode prog_4_method_4_code 13 = .ok (.iconst (-1), 1) := by decide +kernel
theorem dX2_search_14 : decode prog_4_method_4_code 14 = .ok (.if_icmp .ne 7, 3) := by decide +kernel
theorem dX2_search_17 : decode prog_4_method_4_code 17 = .ok (.iconst 0, 1) := by decide +kernel
theorem dX2_search_18 : decode prog_4_method_4_code 18 = .ok (.goto 6, 3) := by decide +kernel
theorem dX2_search_21 : decode prog_4_method_4_code 21 = .ok (.sipush 1000, 3) := by decide +kernel
theorem dX2_search_24 : decode prog_4_method_4_code 24 = .ok (.invokevirtual 78, 3) := by decide +kernel
theorem dX2_search_27 : decode prog_4_method_4_code 27 = .ok (.istore 4, 2) := by decide +kernel
theorem dX2_search_29 : decode prog_4_method_4_code 29 = .ok (.iload 4, 2) := by decide +kernel
theorem dX2_search_31 : decode prog_4_method_4_code 31 = .ok (.iconst (-1), 1) := by decide +kernel
theorem dX2_search_32 : decode prog_4_method_4_code 32 = .ok (.if_icmp .eq 38, 3) := by decide +kernel
theorem dX2_search_35 : decode prog_4_method_4_code 35 = .ok (.aload_n 0, 1) := by decide +kernel
theorem dX2_search_36 : decode prog_4_method_4_code 36 = .ok (.iload 4, 2) := by decide +kernel
theorem dX2_search_38 : decode prog_4_method_4_code 38 = .ok (.invokevirtual 82, 3) := by decide +kernel
theorem dX2_search_41 : decode prog_4_method_4_code 41 = .ok (.aload_n 0, 1) := by decide +kernel
theorem dX2_search_42 : decode prog_4_method_4_code 42 = .ok (.invokevirtual 86, 3) := by decide +kernel
theorem dX2_search_45 : decode prog_4_method_4_code 45 = .ok (.istore 5, 2) := by decide +kernel
theorem dX2_search_47 : decode prog_4_method_4_code 47 = .ok (.aload_n 0, 1) := by decide +kernel
theorem dX2_search_48 : decode prog_4_method_4_code 48 = .ok (.iconst 0, 1) := by decide +kernel
theorem dX2_search_49 : decode prog_4_method_4_code 49 = .ok (.iload 4, 2) := by decide +kernel
theorem dX2_search_51 : decode prog_4_method_4_code 51 = .ok (.iload 5, 2) := by decide +kernel
theorem dX2_search_53 : decode prog_4_method_4_code 53 = .ok (.aload_n 0, 1) := by decide +kernel
theorem dX2_search_54 : decode prog_4_method_4_code 54 = .ok (.iload 5, 2) := by decide +kernel
theorem dX2_search_56 : decode prog_4_method_4_code 56 = .ok (.invokevirtual 89, 3) := by decide +kernel
theorem dX2_search_59 : decode prog_4_method_4_code 59 = .ok (.invokevirtual 92, 3) := by decide +kernel
theorem dX2_search_62 : decode prog_4_method_4_code 62 = .ok (.aload_n 0, 1) := by decide +kernel
theorem dX2_search_63 : decode prog_4_method_4_code 63 = .ok (.iload 5, 2) := by decide +kernel
theorem dX2_search_65 : decode prog_4_method_4_code 65 = .ok (.invokevirtual 96, 3) := by decide +kernel
theorem dX2_search_68 : decode prog_4_method_4_code 68 = .ok (.iconst 0, 1) := by decide +kernel
theorem dX2_search_69 : decode prog_4_method_4_code 69 = .ok (.ireturn, 1) := by decide +kernel
theorem dX2_search_70 : decode prog_4_method_4_code 70 = .ok (.iload_n 3, 1) := by decide +kernel
theorem dX2_search_71 : decode prog_4_method_4_code 71 = .ok (.iconst (-1), 1) := by decide +kernel
theorem dX2_search_72 : decode prog_4_method_4_code 72 = .ok (.if_icmp .eq 15, 3) := by decide +kernel
theorem dX2_search_75 : decode prog_4_method_4_code 75 = .ok (.aload_n 0, 1) := by decide +kernel
theorem dX2_search_76 : decode prog_4_method_4_code 76 = .ok (.iconst 0, 1) := by decide +kernel
theorem dX2_search_77 : decode prog_4_method_4_code 77 = .ok (.sipush 999, 3) := by decide +kernel
theorem dX2_search_80 : decode prog_4_method_4_code 80 = .ok (.iconst 0, 1) := by decide +kernel
theorem dX2_search_81 : decode prog_4_method_4_code 81 = .ok (.iload_n 3, 1) := by decide +kernel
theorem dX2_search_82 : decode prog_4_method_4_code 82 = .ok (.invokevirtual 92, 3) := by decide +kernel
theorem dX2_search_85 : decode prog_4_method_4_code 85 = .ok (.iconst 0, 1) := by decide +kernel
theorem dX2_search_86 : decode prog_4_method_4_code 86 = .ok (.ireturn, 1) := by decide +kernel
theorem dX2_search_87 : decode prog_4_method_4_code 87 = .ok (.aload_n 0, 1) := by decide +kernel
theorem dX2_search_88 : decode prog_4_method_4_code 88 = .ok (.invokevirtual 99, 3) := by decide +kernel
theorem dX2_search_91 : decode prog_4_method_4_code 91 = .ok (.ifCond .eq 7, 3) := by decide +kernel
theorem dX2_search_94 : decode prog_4_method_4_code 94 = .ok (.iconst 1, 1) := by decide +kernel
theorem dX2_search_95 : decode prog_4_method_4_code 95 = .ok (.goto 4, 3) := by decide +kernel
theorem dX2_search_98 : decode prog_4_method_4_code 98 = .ok (.iconst (-1), 1) := by decide +kernel
theorem dX2_search_99 : decode prog_4_method_4_code 99 = .ok (.ireturn, 1) := by decide +kernel
noncomputable def F_X2_search_b24 (v3 : Int) (u1 : Int) (M : bM) : Option (Int × bM) :=
  b_bind (F_X2_greatestWeakest u1 M) (fun t => b_two t (fun x4 M5 => if x4 = (-1) then (if v3 = (-1) then (b_bind (F_X2_takeLinkWithGap M5) (fun t => b_two t (fun x8 M9 => if x8 = 0 then (some ((-1), M9)) else (some (1, M9))))) else (b_bind (F_X2_tell 0 999 0 v3 M5) (fun M11 => some (0, M11)))) else (b_bind (F_X2_fill x4 M5) (fun M12 => b_bind (F_X2_shortest M12) (fun x13 => b_bind (F_X2_firstRoot x13 M12) (fun x14 => b_bind (F_X2_tell 0 x4 x13 x14 M12) (fun M15 => b_bind (F_X2_layRow x13 M15) (fun M16 => some (0, M16)))))))))
theorem t_X2_search_b24 {l : Launch} {E : bE} {Q : (Int × bM) → Prop} {v3 : Int} {u1 : Int} {M : bM} (h : b_wp (F_X2_search_b24 v3 u1 M) (Q)) : V l E xX2_search (0, 0) 24 [(0, bR 7), (3, bI v3)] [bI u1, bR 7] M (b_pI Q) := by
  unfold F_X2_search_b24 at h
  refine v_cVI (nA := 1) (As := [bI _]) (ix := 78) (cf_X2_greatestWeakest (b_wp_b h)) rfl kd_7 rfl rfl wc_X2_greatestWeakest wm_2_78 wi_X2_greatestWeakest ws_X2_greatestWeakest wn_2 ⟨by decide, by decide, by decide⟩ rfl ⟨by decide, by decide⟩ ⟨by decide, by decide⟩ (Nat.le_of_ble_eq_true rfl) dX2_search_24 (fun x4 M5 h => ?_)
  replace h := b_wp_two h
  refine v_istore (i := 4) (ls' := [(4, bI _), (0, bR _), (3, bI _)]) (by decide) dX2_search_27 rfl ?_
  refine v_iload (i := 4) 0 rfl dX2_search_29 ?_
  refine v_iconst ⟨by decide, by decide⟩ dX2_search_31 ?_
  refine v_icmp_eq (tgt := 70) dX2_search_32 (by decide) (fun c6 => ?_) (fun c6 => ?_)
  · replace h := b_wp_t c6 h
    refine v_iload_n (f := 3) 2 rfl dX2_search_70 ?_
    refine v_iconst ⟨by decide, by decide⟩ dX2_search_71 ?_
    refine v_icmp_eq (tgt := 87) dX2_search_72 (by decide) (fun c7 => ?_) (fun c7 => ?_)
    · replace h := b_wp_t c7 h
      refine v_aload_n (f := 0) 1 rfl dX2_search_87 ?_
      refine v_cVI (nA := 0) (As := []) (ix := 99) (cf_X2_takeLinkWithGap (b_wp_b h)) rfl kd_7 rfl rfl wc_X2_takeLinkWithGap wm_2_99 wi_X2_takeLinkWithGap ws_X2_takeLinkWithGap wn_2 ⟨by decide, by decide, by decide⟩ rfl ⟨by decide, by decide⟩ ⟨by decide, by decide⟩ (Nat.le_of_ble_eq_true rfl) dX2_search_88 (fun x8 M9 h => ?_)
      replace h := b_wp_two h
      refine v_if_eq (tgt := 98) dX2_search_91 (by decide) (fun c10 => ?_) (fun c10 => ?_)
      · replace h := b_wp_t c10 h
        refine v_iconst ⟨by decide, by decide⟩ dX2_search_98 ?_
        refine v_ireturn rfl dX2_search_99 ⟨by decide, by decide⟩ ?_
        exact ⟨_, rfl, h⟩
      · replace h := b_wp_f c10 h
        refine v_iconst ⟨by decide, by decide⟩ dX2_search_94 ?_
        refine v_goto (tgt := 99) dX2_search_95 (by decide) ?_
        refine v_ireturn rfl dX2_search_99 ⟨by decide, by decide⟩ ?_
        exact ⟨_, rfl, h⟩
    · replace h := b_wp_f c7 h
      refine v_aload_n (f := 0) 1 rfl dX2_search_75 ?_
      refine v_iconst ⟨by decide, by decide⟩ dX2_search_76 ?_
      refine v_sipush ⟨by decide, by decide⟩ (by decide) dX2_search_77 ?_
      refine v_iconst ⟨by decide, by decide⟩ dX2_search_80 ?_
      refine v_iload_n (f := 3) 2 rfl dX2_search_81 ?_
      refine v_cVV (nA := 4) (As := [bI _, bI _, bI _, bI _]) (ix := 92) (cf_X2_tell (b_wp_b h)) rfl kd_7 rfl rfl wc_X2_tell wm_2_92 wi_X2_tell ws_X2_tell wn_2 ⟨by decide, by decide, by decide⟩ rfl ⟨by decide, by decide⟩ ⟨by decide, by decide⟩ (Nat.le_of_ble_eq_true rfl) dX2_search_82 (fun M11 h => ?_)
      refine v_iconst ⟨by decide, by decide⟩ dX2_search_85 ?_
      refine v_ireturn rfl dX2_search_86 ⟨by decide, by decide⟩ ?_
      exact ⟨_, rfl, h⟩
  · replace h := b_wp_f c6 h
    refine v_aload_n (f := 0) 1 rfl dX2_search_35 ?_
    refine v_iload (i := 4) 0 rfl dX2_search_36 ?_
    refine v_cVV (nA := 1) (As := [bI _]) (ix := 82) (cf_X2_fill (b_wp_b h)) rfl kd_7 rfl rfl wc_X2_fill wm_2_82 wi_X2_fill ws_X2_fill wn_2 ⟨by decide, by decide, by decide⟩ rfl ⟨by decide, by decide⟩ ⟨by decide, by decide⟩ (Nat.le_of_ble_eq_true rfl) dX2_search_38 (fun M12 h => ?_)
    refine v_aload_n (f := 0) 1 rfl dX2_search_41 ?_
    refine v_cVIp (nA := 0) (As := []) (ix := 86) (cf_X2_shortest (b_wp_b h)) rfl kd_7 rfl rfl wc_X2_shortest wm_2_86 wi_X2_shortest ws_X2_shortest wn_2 ⟨by decide, by decide, by decide⟩ rfl ⟨by decide, by decide⟩ ⟨by decide, by decide⟩ (Nat.le_of_ble_eq_true rfl) dX2_search_42 (fun x13 h => ?_)
    refine v_istore (i := 5) (ls' := [(5, bI _), (4, bI _), (0, bR _), (3, bI _)]) (by decide) dX2_search_45 rfl ?_
    refine v_aload_n (f := 0) 2 rfl dX2_search_47 ?_
    refine v_iconst ⟨by decide, by decide⟩ dX2_search_48 ?_
    refine v_iload (i := 4) 1 rfl dX2_search_49 ?_
    refine v_iload (i := 5) 0 rfl dX2_search_51 ?_
    refine v_aload_n (f := 0) 2 rfl dX2_search_53 ?_
    refine v_iload (i := 5) 0 rfl dX2_search_54 ?_
    refine v_cVIp (nA := 1) (As := [bI _]) (ix := 89) (cf_X2_firstRoot (b_wp_b h)) rfl kd_7 rfl rfl wc_X2_firstRoot wm_2_89 wi_X2_firstRoot ws_X2_firstRoot wn_2 ⟨by decide, by decide, by decide⟩ rfl ⟨by decide, by decide⟩ ⟨by decide, by decide⟩ (Nat.le_of_ble_eq_true rfl) dX2_search_56 (fun x14 h => ?_)
    refine v_cVV (nA := 4) (As := [bI _, bI _, bI _, bI _]) (ix := 92) (cf_X2_tell (b_wp_b h)) rfl kd_7 rfl rfl wc_X2_tell wm_2_92 wi_X2_tell ws_X2_tell wn_2 ⟨by decide, by decide, by decide⟩ rfl ⟨by decide, by decide⟩ ⟨by decide, by decide⟩ (Nat.le_of_ble_eq_true rfl) dX2_search_59 (fun M15 h => ?_)
    refine v_aload_n (f := 0) 2 rfl dX2_search_62 ?_
    refine v_iload (i := 5) 0 rfl dX2_search_63 ?_
    refine v_cVV (nA := 1) (As := [bI _]) (ix := 96) (cf_X2_layRow (b_wp_b h)) rfl kd_7 rfl rfl wc_X2_layRow wm_2_96 wi_X2_layRow ws_X2_layRow wn_2 ⟨by decide, by decide, by decide⟩ rfl ⟨by decide, by decide⟩ ⟨by decide, by decide⟩ (Nat.le_of_ble_eq_true rfl) dX2_search_65 (fun M16 h => ?_)
    refine v_iconst ⟨by decide, by decide⟩ dX2_search_68 ?_
    refine v_ireturn rfl dX2_search_69 ⟨by decide, by decide⟩ ?_
    exact ⟨_, rfl, h⟩
noncomputable def F_X2_search (v1 : Int) (v2 : Int) (M : bM) : Option (Int × bM) :=
  b_bind (F_X2_gather v1 v2 M) (fun M1 => b_bind (F_X2_lotOfBareChain M1) (fun x2 => if x2 = (-1) then (F_X2_search_b24 x2 0 M1) else (F_X2_search_b24 x2 1000 M1)))
theorem t_X2_search {l : Launch} {E : bE} {Q : (Int × bM) → Prop} {v1 : Int} {v2 : Int} {M : bM} (h : b_wp (F_X2_search v1 v2 M) (Q)) : V l E xX2_search (0, 0) 0 [(0, bR 7), (1, bI v1), (2, bI v2)] [] M (b_pI Q) := by
  unfold F_X2_search at h
  refine v_aload_n (f := 0) 0 rfl dX2_search_0 ?_
  refine v_iload_n (f := 1) 1 rfl dX2_search_1 ?_
  refine v_iload_n (f := 2) 2 rfl dX2_search_2 ?_
  refine v_cVV (nA := 2) (As := [bI _, bI _]) (ix := 70) (cf_X2_gather (b_wp_b h)) rfl kd_7 rfl rfl wc_X2_gather wm_2_70 wi_X2_gather ws_X2_gather wn_2 ⟨by decide, by decide, by decide⟩ rfl ⟨by decide, by decide⟩ ⟨by decide, by decide⟩ (Nat.le_of_ble_eq_true rfl) dX2_search_3 (fun M1 h => ?_)
  refine v_aload_n (f := 0) 0 rfl dX2_search_6 ?_
  refine v_cVIp (nA := 0) (As := []) (ix := 74) (cf_X2_lotOfBareChain (b_wp_b h)) rfl kd_7 rfl rfl wc_X2_lotOfBareChain wm_2_74 wi_X2_lotOfBareChain ws_X2_lotOfBareChain wn_2 ⟨by decide, by decide, by decide⟩ rfl ⟨by decide, by decide⟩ ⟨by decide, by decide⟩ (Nat.le_of_ble_eq_true rfl) dX2_search_7 (fun x2 h => ?_)
  refine v_istore_n (g := 3) (i := 3) (ls' := [(3, bI _), (0, bR _), (1, bI _), (2, bI _)]) rfl (by decide) dX2_search_10 rfl ?_
  refine v_aload_n (f := 0) 1 rfl dX2_search_11 ?_
  refine v_iload_n (f := 3) 0 rfl dX2_search_12 ?_
  refine v_iconst ⟨by decide, by decide⟩ dX2_search_13 ?_
  refine v_icmp_ne (tgt := 21) dX2_search_14 (by decide) (fun c3 => ?_) (fun c3 => ?_)
  · replace h := b_wp_f c3 h
    refine v_sipush ⟨by decide, by decide⟩ (by decide) dX2_search_21 ?_
    refine v_sub (ls2 := [(0, bR _), (3, bI _)]) [1, 0] rfl ?_
    exact t_X2_search_b24 h
  · replace h := b_wp_t c3 h
    refine v_iconst ⟨by decide, by decide⟩ dX2_search_17 ?_
    refine v_goto (tgt := 24) dX2_search_18 (by decide) ?_
    refine v_sub (ls2 := [(0, bR _), (3, bI _)]) [1, 0] rfl ?_
    exact t_X2_search_b24 h
theorem cf_X2_search {l : Launch} {E : bE} {M : bM} {v1 : Int} {v2 : Int} {Q : (Int × bM) → Prop} (h : b_wp (F_X2_search v1 v2 M) Q) : b_C l E xX2_search yX2_search [bR 7, bI v1, bI v2] M (b_pI Q) := b_met (by decide) ⟨rfl, rfl⟩ (Nat.le_of_ble_eq_true rfl) (fun _ _ => t_X2_search h)
abbrev xX2_remember : bX := ("BurntHall$Chains", prog_4_method_2_code, 1, (Option.none : Option Jvm.ClassFile.FieldType), b_rm 1 0 0, 0, "remember")
abbrev yX2_remember : MethodName := ⟨"BurntHall$Chains", "remember", "()V"⟩
theorem dX2_remember_0 : decode prog_4_method_2_code 0 = .ok (.aload_n 0, 1) := by decide +kernel
theorem dX2_remember_1 : decode prog_4_method_2_code 1 = .ok (.getfield 46, 3) := by decide +kernel
theorem dX2_remember_4 : decode prog_4_method_2_code 4 = .ok (.iconst 0, 1) := by decide +kernel
theorem dX2_remember_5 : decode prog_4_method_2_code 5 = .ok (.aload_n 0, 1) := by decide +kernel
theorem dX2_remember_6 : decode prog_4_method_2_code 6 = .ok (.getfield 49, 3) := by decide +kernel
theorem dX2_remember_9 : decode prog_4_method_2_code 9 = .ok (.iconst 0, 1) := by decide +kernel
theorem dX2_remember_10 : decode prog_4_method_2_code 10 = .ok (.aload_n 0, 1) := by decide +kernel
theorem dX2_remember_11 : decode prog_4_method_2_code 11 = .ok (.getfield 46, 3) := by decide +kernel
theorem dX2_remember_14 : decode prog_4_method_2_code 14 = .ok (.arraylength, 1) := by decide +kernel
theorem dX2_remember_15 : decode prog_4_method_2_code 15 = .ok (.invokestatic 64, 3) := by decide +kernel
theorem dX2_remember_18 : decode prog_4_method_2_code 18 = .ok (.return_, 1) := by decide +kernel
noncomputable def F_X2_remember (M : bM) : Option (bM) :=
  b_g (0 ≤ (0 : Int) ∧ 0 ≤ (0 : Int) ∧ 0 ≤ (12 : Int) ∧ (0 : Int) + 12 ≤ 12 ∧ (0 : Int) + 12 ≤ 12) (b_let (b_set M 141 (s_cpy (M 140) (M 141) 0 0 12)) (fun M2 => some M2))
theorem t_X2_remember {l : Launch} {E : bE} {Q : bM → Prop} {M : bM} (h : b_wp (F_X2_remember M) (Q)) : V l E xX2_remember (0, 0) 0 [(0, bR 7)] [] M (b_pV Q) := by
  unfold F_X2_remember at h
  obtain ⟨g1, h⟩ := b_wp_g h
  refine v_aload_n (f := 0) 0 rfl dX2_remember_0 ?_
  refine v_getR (kf := 18) (kz := 18) rfl kd_7 rfl ⟨by decide, by decide⟩ rfl wf_2_46 dX2_remember_1 ?_
  refine v_iconst ⟨by decide, by decide⟩ dX2_remember_4 ?_
  refine v_aload_n (f := 0) 0 rfl dX2_remember_5 ?_
  refine v_getR (kf := 19) (kz := 19) rfl kd_7 rfl ⟨by decide, by decide⟩ rfl wf_2_49 dX2_remember_6 ?_
  refine v_iconst ⟨by decide, by decide⟩ dX2_remember_9 ?_
  refine v_aload_n (f := 0) 0 rfl dX2_remember_10 ?_
  refine v_getR (kf := 18) (kz := 18) rfl kd_7 rfl ⟨by decide, by decide⟩ rfl wf_2_46 dX2_remember_11 ?_
  refine v_alen1 kd_140 (by decide) dX2_remember_14 ?_
  refine g_copyI (b_in kd_140 (by simp)) (b_in kd_141 (by simp)) kd_140 kd_141 g1 wm_2_64 ⟨by decide, by decide⟩ (Nat.le_of_ble_eq_true rfl) dX2_remember_15 ?_
  replace h := b_wp_l h
  refine v_return rfl dX2_remember_18 ⟨by decide, by decide⟩ ?_
  exact ⟨rfl, h⟩
theorem cf_X2_remember {l : Launch} {E : bE} {M : bM} {Q : bM → Prop} (h : b_wp (F_X2_remember M) Q) : b_C l E xX2_remember yX2_remember [bR 7] M (b_pV Q) := b_met (by decide) ⟨rfl, rfl⟩ (Nat.le_of_ble_eq_true rfl) (fun _ _ => t_X2_remember h)
abbrev xX11_chain : bX := ("BurntHall", prog_1_method_36_code, 5, (Option.some Jvm.ClassFile.FieldType.int), b_rm 7 0 0, 0, "chain")
abbrev yX11_chain : MethodName := ⟨"BurntHall", "chain", "(III)I"⟩
theorem dX11_chain_0 : decode prog_1_method_36_code 0 = .ok (.aload_n 0, 1) := by decide +kernel
theorem dX11_chain_1 : decode prog_1_method_36_code 1 = .ok (.getfield 26, 3) := by decide +kernel
theorem dX11_chain_4 : decode prog_1_method_36_code 4 = .ok (.iload_n 1, 1) := by decide +kernel
theorem dX11_chain_5 : decode prog_1_method_36_code 5 = .ok (.invokevirtual 146, 3) := by decide +kernel
theorem dX11_chain_8 : decode prog_1_method_36_code 8 = .ok (.ifCond .eq 21, 3) := by decide +kernel
theorem dX11_chain_11 : decode prog_1_method_36_code 11 = .ok (.aload_n 0, 1) := by decide +kernel
theorem dX11_chain_12 : decode prog_1_method_36_code 12 = .ok (.getfield 19, 3) := by decide +kernel
theorem dX11_chain_15 : decode prog_1_method_36_code 15 = .ok (.iload_n 2, 1) := by decide +kernel
theorem dX11_chain_16 : decode prog_1_method_36_code 16 = .ok (.invokevirtual 110, 3) := by decide +kernel
theorem dX11_chain_19 : decode prog_1_method_36_code 19 = .ok (.ifCond .eq 10, 3) := by decide +kernel
theorem dX11_chain_22 : decode prog_1_method_36_code 22 = .ok (.iload_n 3, 1) := by decide +kernel
theorem dX11_chain_23 : decode prog_1_method_36_code 23 = .ok (.invokestatic 102, 3) := by decide +kernel
theorem dX11_chain_26 : decode prog_1_method_36_code 26 = .ok (.ifCond .ne 6, 3) := by decide +kernel
theorem dX11_chain_29 : decode prog_1_method_36_code 29 = .ok (.bipush (-2), 2) := by decide +kernel
theorem dX11_chain_31 : decode prog_1_method_36_code 31 = .ok (.ireturn, 1) := by decide +kernel
theorem dX11_chain_32 : decode prog_1_method_36_code 32 = .ok (.aload_n 0, 1) := by decide +kernel
theorem dX11_chain_33 : decode prog_1_method_36_code 33 = .ok (.getfield 51, 3) := by decide +kernel
theorem dX11_chain_36 : decode prog_1_method_36_code 36 = .ok (.iload_n 3, 1) := by decide +kernel
theorem dX11_chain_37 : decode prog_1_method_36_code 37 = .ok (.invokevirtual 284, 3) := by decide +kernel
theorem dX11_chain_40 : decode prog_1_method_36_code 40 = .ok (.aload_n 0, 1) := by decide +kernel
theorem dX11_chain_41 : decode prog_1_method_36_code 41 = .ok (.getfield 60, 3) := by decide +kernel
theorem dX11_chain_44 : decode prog_1_method_36_code 44 = .ok (.iload_n 1, 1) := by decide +kernel
theorem dX11_chain_45 : decode prog_1_method_36_code 45 = .ok (.iload_n 2, 1) := by decide +kernel
theorem dX11_chain_46 : decode prog_1_method_36_code 46 = .ok (.invokevirtual 294, 3) := by decide +kernel
theorem dX11_chain_49 : decode prog_1_method_36_code 49 = .ok (.istore 4, 2) := by decide +kernel
theorem dX11_chain_51 : decode prog_1_method_36_code 51 = .ok (.iload 4, 2) := by decide +kernel
theorem dX11_chain_53 : decode prog_1_method_36_code 53 = .ok (.iconst (-1), 1) := by decide +kernel
theorem dX11_chain_54 : decode prog_1_method_36_code 54 = .ok (.if_icmp .eq 10, 3) := by decide +kernel
theorem dX11_chain_57 : decode prog_1_method_36_code 57 = .ok (.aload_n 0, 1) := by decide +kernel
theorem dX11_chain_58 : decode prog_1_method_36_code 58 = .ok (.getfield 60, 3) := by decide +kernel
theorem dX11_chain_61 : decode prog_1_method_36_code 61 = .ok (.invokevirtual 297, 3) := by decide +kernel
theorem dX11_chain_64 : decode prog_1_method_36_code 64 = .ok (.iload 4, 2) := by decide +kernel
theorem dX11_chain_66 : decode prog_1_method_36_code 66 = .ok (.ireturn, 1) := by decide +kernel
noncomputable def F_X11_chain (v1 : Int) (v2 : Int) (v3 : Int) (M : bM) : Option (Int × bM) :=
  b_bind (F_X5_has v1 M) (fun x1 => if x1 = 0 then (some ((-2), M)) else (b_bind (F_X8_has v2 M) (fun x3 => if x3 = 0 then (some ((-2), M)) else (b_bind (F_X11_isDay v3 M) (fun x5 => if x5 = 0 then (some ((-2), M)) else (b_bind (F_X4_know v3 M) (fun M7 => b_bind (F_X2_search v1 v2 M7) (fun t => b_two t (fun x8 M9 => if x8 = (-1) then (some (x8, M9)) else (b_bind (F_X2_remember M9) (fun M11 => some (x8, M11))))))))))))
theorem t_X11_chain {l : Launch} {E : bE} {Q : (Int × bM) → Prop} {v1 : Int} {v2 : Int} {v3 : Int} {M : bM} (h : b_wp (F_X11_chain v1 v2 v3 M) (Q)) : V l E xX11_chain (0, 0) 0 [(0, bR 0), (1, bI v1), (2, bI v2), (3, bI v3)] [] M (b_pI Q) := by
  unfold F_X11_chain at h
  refine v_aload_n (f := 0) 0 rfl dX11_chain_0 ?_
  refine v_getR (kf := 2) (kz := 2) rfl kd_0 rfl ⟨by decide, by decide⟩ rfl wf_11_26 dX11_chain_1 ?_
  refine v_iload_n (f := 1) 1 rfl dX11_chain_4 ?_
  refine v_cVIp (nA := 1) (As := [bI _]) (ix := 146) (cf_X5_has (b_wp_b h)) rfl kd_3 rfl rfl wc_X5_has wm_11_146 wi_X5_has ws_X5_has wn_5 ⟨by decide, by decide, by decide⟩ rfl ⟨by decide, by decide⟩ ⟨by decide, by decide⟩ (Nat.le_of_ble_eq_true rfl) dX11_chain_5 (fun x1 h => ?_)
  refine v_if_eq (tgt := 29) dX11_chain_8 (by decide) (fun c2 => ?_) (fun c2 => ?_)
  · replace h := b_wp_t c2 h
    refine v_bipush ⟨by decide, by decide⟩ (by decide) dX11_chain_29 ?_
    refine v_ireturn rfl dX11_chain_31 ⟨by decide, by decide⟩ ?_
    exact ⟨_, rfl, h⟩
  · replace h := b_wp_f c2 h
    refine v_aload_n (f := 0) 0 rfl dX11_chain_11 ?_
    refine v_getR (kf := 1) (kz := 1) rfl kd_0 rfl ⟨by decide, by decide⟩ rfl wf_11_19 dX11_chain_12 ?_
    refine v_iload_n (f := 2) 2 rfl dX11_chain_15 ?_
    refine v_cVIp (nA := 1) (As := [bI _]) (ix := 110) (cf_X8_has (b_wp_b h)) rfl kd_2 rfl rfl wc_X8_has wm_11_110 wi_X8_has ws_X8_has wn_8 ⟨by decide, by decide, by decide⟩ rfl ⟨by decide, by decide⟩ ⟨by decide, by decide⟩ (Nat.le_of_ble_eq_true rfl) dX11_chain_16 (fun x3 h => ?_)
    refine v_if_eq (tgt := 29) dX11_chain_19 (by decide) (fun c4 => ?_) (fun c4 => ?_)
    · replace h := b_wp_t c4 h
      refine v_bipush ⟨by decide, by decide⟩ (by decide) dX11_chain_29 ?_
      refine v_ireturn rfl dX11_chain_31 ⟨by decide, by decide⟩ ?_
      exact ⟨_, rfl, h⟩
    · replace h := b_wp_f c4 h
      refine v_iload_n (f := 3) 3 rfl dX11_chain_22 ?_
      refine v_cSIp (nA := 1) (As := [bI _]) (ix := 102) (cf_X11_isDay (b_wp_b h)) rfl wc_X11_isDay wm_11_102 wi_X11_isDay wn_11 ⟨by decide, by decide, by decide⟩ rfl ⟨by decide, by decide⟩ ⟨by decide, by decide⟩ (Nat.le_of_ble_eq_true rfl) dX11_chain_23 (fun x5 h => ?_)
      refine v_if_ne (tgt := 32) dX11_chain_26 (by decide) (fun c6 => ?_) (fun c6 => ?_)
      · replace h := b_wp_f c6 h
        refine v_aload_n (f := 0) 0 rfl dX11_chain_32 ?_
        refine v_getR (kf := 5) (kz := 5) rfl kd_0 rfl ⟨by decide, by decide⟩ rfl wf_11_51 dX11_chain_33 ?_
        refine v_iload_n (f := 3) 3 rfl dX11_chain_36 ?_
        refine v_cVV (nA := 1) (As := [bI _]) (ix := 284) (cf_X4_know (b_wp_b h)) rfl kd_6 rfl rfl wc_X4_know wm_11_284 wi_X4_know ws_X4_know wn_4 ⟨by decide, by decide, by decide⟩ rfl ⟨by decide, by decide⟩ ⟨by decide, by decide⟩ (Nat.le_of_ble_eq_true rfl) dX11_chain_37 (fun M7 h => ?_)
        refine v_aload_n (f := 0) 0 rfl dX11_chain_40 ?_
        refine v_getR (kf := 6) (kz := 6) rfl kd_0 rfl ⟨by decide, by decide⟩ rfl wf_11_60 dX11_chain_41 ?_
        refine v_iload_n (f := 1) 1 rfl dX11_chain_44 ?_
        refine v_iload_n (f := 2) 2 rfl dX11_chain_45 ?_
        refine v_cVI (nA := 2) (As := [bI _, bI _]) (ix := 294) (cf_X2_search (b_wp_b h)) rfl kd_7 rfl rfl wc_X2_search wm_11_294 wi_X2_search ws_X2_search wn_2 ⟨by decide, by decide, by decide⟩ rfl ⟨by decide, by decide⟩ ⟨by decide, by decide⟩ (Nat.le_of_ble_eq_true rfl) dX11_chain_46 (fun x8 M9 h => ?_)
        replace h := b_wp_two h
        refine v_istore (i := 4) (ls' := [(4, bI _), (0, bR _), (1, bI _), (2, bI _), (3, bI _)]) (by decide) dX11_chain_49 rfl ?_
        refine v_iload (i := 4) 0 rfl dX11_chain_51 ?_
        refine v_iconst ⟨by decide, by decide⟩ dX11_chain_53 ?_
        refine v_icmp_eq (tgt := 64) dX11_chain_54 (by decide) (fun c10 => ?_) (fun c10 => ?_)
        · replace h := b_wp_t c10 h
          refine v_iload (i := 4) 0 rfl dX11_chain_64 ?_
          refine v_ireturn rfl dX11_chain_66 ⟨by decide, by decide⟩ ?_
          exact ⟨_, rfl, h⟩
        · replace h := b_wp_f c10 h
          refine v_aload_n (f := 0) 1 rfl dX11_chain_57 ?_
          refine v_getR (kf := 6) (kz := 6) rfl kd_0 rfl ⟨by decide, by decide⟩ rfl wf_11_60 dX11_chain_58 ?_
          refine v_cVV (nA := 0) (As := []) (ix := 297) (cf_X2_remember (b_wp_b h)) rfl kd_7 rfl rfl wc_X2_remember wm_11_297 wi_X2_remember ws_X2_remember wn_2 ⟨by decide, by decide, by decide⟩ rfl ⟨by decide, by decide⟩ ⟨by decide, by decide⟩ (Nat.le_of_ble_eq_true rfl) dX11_chain_61 (fun M11 h => ?_)
          refine v_iload (i := 4) 0 rfl dX11_chain_64 ?_
          refine v_ireturn rfl dX11_chain_66 ⟨by decide, by decide⟩ ?_
          exact ⟨_, rfl, h⟩
      · replace h := b_wp_t c6 h
        refine v_bipush ⟨by decide, by decide⟩ (by decide) dX11_chain_29 ?_
        refine v_ireturn rfl dX11_chain_31 ⟨by decide, by decide⟩ ?_
        exact ⟨_, rfl, h⟩
theorem cf_X11_chain {l : Launch} {E : bE} {M : bM} {v1 : Int} {v2 : Int} {v3 : Int} {Q : (Int × bM) → Prop} (h : b_wp (F_X11_chain v1 v2 v3 M) Q) : b_C l E xX11_chain yX11_chain [bR 0, bI v1, bI v2, bI v3] M (b_pI Q) := b_met (by decide) ⟨rfl, rfl⟩ (Nat.le_of_ble_eq_true rfl) (fun _ _ => t_X11_chain h)
abbrev xX2_recall : bX := ("BurntHall$Chains", prog_4_method_3_code, 3, (Option.some Jvm.ClassFile.FieldType.int), b_rm 1 0 0, 0, "recall")
abbrev yX2_recall : MethodName := ⟨"BurntHall$Chains", "recall", "(I)I"⟩
theorem dX2_recall_0 : decode prog_4_method_3_code 0 = .ok (.aload_n 0, 1) := by decide +kernel
theorem dX2_recall_1 : decode prog_4_method_3_code 1 = .ok (.getfield 49, 3) := by decide +kernel
theorem dX2_recall_4 : decode prog_4_method_3_code 4 = .ok (.iconst 3, 1) := by decide +kernel
theorem dX2_recall_5 : decode prog_4_method_3_code 5 = .ok (.iaload, 1) := by decide +kernel
theorem dX2_recall_6 : decode prog_4_method_3_code 6 = .ok (.iconst (-1), 1) := by decide +kernel
theorem dX2_recall_7 : decode prog_4_method_3_code 7 = .ok (.if_icmp .ne 5, 3) := by decide +kernel
theorem dX2_recall_10 : decode prog_4_method_3_code 10 = .ok (.iconst (-1), 1) := by decide +kernel
theorem dX2_recall_11 : decode prog_4_method_3_code 11 = .ok (.ireturn, 1) := by decide +kernel
theorem dX2_recall_12 : decode prog_4_method_3_code 12 = .ok (.iload_n 1, 1) := by decide +kernel
theorem dX2_recall_13 : decode prog_4_method_3_code 13 = .ok (.ifCond .lt 15, 3) := by decide +kernel
theorem dX2_recall_16 : decode prog_4_method_3_code 16 = .ok (.iload_n 1, 1) := by decide +kernel
theorem dX2_recall_17 : decode prog_4_method_3_code 17 = .ok (.iconst 3, 1) := by decide +kernel
theorem dX2_recall_18 : decode prog_4_method_3_code 18 = .ok (.if_icmp .gt 10, 3) := by decide +kernel
theorem dX2_recall_21 : decode prog_4_method_3_code 21 = .ok (.aload_n 0, 1) := by decide +kernel
theorem dX2_recall_22 : decode prog_4_method_3_code 22 = .ok (.getfield 49, 3) := by decide +kernel
theorem dX2_recall_25 : decode prog_4_method_3_code 25 = .ok (.iload_n 1, 1) := by decide +kernel
theorem dX2_recall_26 : decode prog_4_method_3_code 26 = .ok (.iaload, 1) := by decide +kernel
theorem dX2_recall_27 : decode prog_4_method_3_code 27 = .ok (.ireturn, 1) := by decide +kernel
theorem dX2_recall_28 : decode prog_4_method_3_code 28 = .ok (.iload_n 1, 1) := by decide +kernel
theorem dX2_recall_29 : decode prog_4_method_3_code 29 = .ok (.bipush 10, 2) := by decide +kernel
theorem dX2_recall_31 : decode prog_4_method_3_code 31 = .ok (.if_icmp .lt 26, 3) := by decide +kernel
theorem dX2_recall_34 : decode prog_4_method_3_code 34 = .ok (.iload_n 1, 1) := by decide +kernel
theorem dX2_recall_35 : decode prog_4_method_3_code 35 = .ok (.bipush 18, 2) := by decide +kernel
theorem dX2_recall_37 : decode prog_4_method_3_code 37 = .ok (.if_icmp .ge 20, 3) := by decide +kernel
theorem dX2_recall_40 : decode prog_4_method_3_code 40 = .ok (.iload_n 1, 1) := by decide +kernel
theorem dX2_recall_41 : decode prog_4_method_3_code 41 = .ok (.bipush 10, 2) := by decide +kernel
theorem dX2_recall_43 : decode prog_4_method_3_code 43 = .ok (.isub, 1) := by decide +kernel
theorem dX2_recall_44 : decode prog_4_method_3_code 44 = .ok (.aload_n 0, 1) := by decide +kernel
theorem dX2_recall_45 : decode prog_4_method_3_code 45 = .ok (.getfield 49, 3) := by decide +kernel
theorem dX2_recall_48 : decode prog_4_method_3_code 48 = .ok (.iconst 2, 1) := by decide +kernel
theorem dX2_recall_49 : decode prog_4_method_3_code 49 = .ok (.iaload, 1) := by decide +kernel
theorem dX2_recall_50 : decode prog_4_method_3_code 50 = .ok (.if_icmp .ge 7, 3) := by decide +kernel
theorem dX2_recall_53 : decode prog_4_method_3_code 53 = .ok (.iconst 1, 1) := by decide +kernel
theorem dX2_recall_54 : decode prog_4_method_3_code 54 = .ok (.goto 4, 3) := by decide +kernel
theorem dX2_recall_57 : decode prog_4_method_3_code 57 = .ok (.iconst 0, 1) := by decide +kernel
theorem dX2_recall_58 : decode prog_4_method_3_code 58 = .ok (.istore_n 2, 1) := by decide +kernel
theorem dX2_recall_59 : decode prog_4_method_3_code 59 = .ok (.iload_n 2, 1) := by decide +kernel
theorem dX2_recall_60 : decode prog_4_method_3_code 60 = .ok (.ifCond .eq 17, 3) := by decide +kernel
theorem dX2_recall_63 : decode prog_4_method_3_code 63 = .ok (.aload_n 0, 1) := by decide +kernel
theorem dX2_recall_64 : decode prog_4_method_3_code 64 = .ok (.getfield 49, 3) := by decide +kernel
theorem dX2_recall_67 : decode prog_4_method_3_code 67 = .ok (.iconst 4, 1) := by decide +kernel
theorem dX2_recall_68 : decode prog_4_method_3_code 68 = .ok (.iload_n 1, 1) := by decide +kernel
theorem dX2_recall_69 : decode prog_4_method_3_code 69 = .ok (.iadd, 1) := by decide +kernel
theorem dX2_recall_70 : decode prog_4_method_3_code 70 = .ok (.bipush 10, 2) := by decide +kernel
theorem dX2_recall_72 : decode prog_4_method_3_code 72 = .ok (.isub, 1) := by decide +kernel
theorem dX2_recall_73 : decode prog_4_method_3_code 73 = .ok (.iaload, 1) := by decide +kernel
theorem dX2_recall_74 : decode prog_4_method_3_code 74 = .ok (.goto 4, 3) := by decide +kernel
theorem dX2_recall_77 : decode prog_4_method_3_code 77 = .ok (.iconst (-1), 1) := by decide +kernel
theorem dX2_recall_78 : decode prog_4_method_3_code 78 = .ok (.ireturn, 1) := by decide +kernel
noncomputable def F_X2_recall_b58 (v1 : Int) (u0 : Int) (M : bM) : Option (Int) :=
  if u0 = 0 then (some (-1)) else (b_g ((b_i32 (4 + v1)) ∧ (b_i32 ((4 + v1) - 10)) ∧ (0 ≤ ((4 + v1) - 10) ∧ ((4 + v1) - 10) < 12)) (some (M 141 ((4 + v1) - 10))))
theorem t_X2_recall_b58 {l : Launch} {E : bE} {Q : Int → Prop} {v1 : Int} {u0 : Int} {M : bM} (h : b_wp (F_X2_recall_b58 v1 u0 M) (Q)) : V l E xX2_recall (0, 0) 58 [(0, bR 7), (1, bI v1)] [bI u0] M (b_pIp M Q) := by
  unfold F_X2_recall_b58 at h
  refine v_istore_n (g := 2) (i := 2) (ls' := [(2, bI _), (0, bR _), (1, bI _)]) rfl (by decide) dX2_recall_58 rfl ?_
  refine v_iload_n (f := 2) 0 rfl dX2_recall_59 ?_
  refine v_if_eq (tgt := 77) dX2_recall_60 (by decide) (fun c4 => ?_) (fun c4 => ?_)
  · replace h := b_wp_t c4 h
    refine v_iconst ⟨by decide, by decide⟩ dX2_recall_77 ?_
    refine v_ireturn rfl dX2_recall_78 ⟨by decide, by decide⟩ ?_
    exact ⟨_, rfl, rfl, h⟩
  · replace h := b_wp_f c4 h
    obtain ⟨⟨g5, g6, g7⟩, h⟩ := b_wp_g h
    refine v_aload_n (f := 0) 1 rfl dX2_recall_63 ?_
    refine v_getR (kf := 19) (kz := 19) rfl kd_7 rfl ⟨by decide, by decide⟩ rfl wf_2_49 dX2_recall_64 ?_
    refine v_iconst ⟨by decide, by decide⟩ dX2_recall_67 ?_
    refine v_iload_n (f := 1) 2 rfl dX2_recall_68 ?_
    refine v_iaddN g5 dX2_recall_69 ?_
    refine v_bipush ⟨by decide, by decide⟩ (by decide) dX2_recall_70 ?_
    refine v_isubN g6 dX2_recall_72 ?_
    refine v_iaload kd_141 g7 (by decide) dX2_recall_73 ?_
    refine v_goto (tgt := 78) dX2_recall_74 (by decide) ?_
    refine v_ireturn rfl dX2_recall_78 ⟨by decide, by decide⟩ ?_
    exact ⟨_, rfl, rfl, h⟩
noncomputable def F_X2_recall_b57 (v1 : Int) (M : bM) : Option (Int) :=
  F_X2_recall_b58 v1 0 M
theorem t_X2_recall_b57 {l : Launch} {E : bE} {Q : Int → Prop} {v1 : Int} {M : bM} (h : b_wp (F_X2_recall_b57 v1 M) (Q)) : V l E xX2_recall (0, 0) 57 [(0, bR 7), (1, bI v1)] [] M (b_pIp M Q) := by
  unfold F_X2_recall_b57 at h
  refine v_iconst ⟨by decide, by decide⟩ dX2_recall_57 ?_
  exact t_X2_recall_b58 h
noncomputable def F_X2_recall_b28 (v1 : Int) (M : bM) : Option (Int) :=
  if v1 < 10 then (F_X2_recall_b57 v1 M) else (if 18 ≤ v1 then (F_X2_recall_b57 v1 M) else (b_g (b_i32 (v1 - 10)) (if (M 141 2) ≤ (v1 - 10) then (F_X2_recall_b57 v1 M) else (F_X2_recall_b58 v1 1 M))))
theorem t_X2_recall_b28 {l : Launch} {E : bE} {Q : Int → Prop} {v1 : Int} {M : bM} (h : b_wp (F_X2_recall_b28 v1 M) (Q)) : V l E xX2_recall (0, 0) 28 [(0, bR 7), (1, bI v1)] [] M (b_pIp M Q) := by
  unfold F_X2_recall_b28 at h
  refine v_iload_n (f := 1) 1 rfl dX2_recall_28 ?_
  refine v_bipush ⟨by decide, by decide⟩ (by decide) dX2_recall_29 ?_
  refine v_icmp_lt (tgt := 57) dX2_recall_31 (by decide) (fun c3 => ?_) (fun c3 => ?_)
  · replace h := b_wp_t c3 h
    exact t_X2_recall_b57 h
  · replace h := b_wp_f c3 h
    refine v_iload_n (f := 1) 1 rfl dX2_recall_34 ?_
    refine v_bipush ⟨by decide, by decide⟩ (by decide) dX2_recall_35 ?_
    refine v_icmp_ge (tgt := 57) dX2_recall_37 (by decide) (fun c8 => ?_) (fun c8 => ?_)
    · replace h := b_wp_t c8 h
      exact t_X2_recall_b57 h
    · replace h := b_wp_f c8 h
      obtain ⟨g9, h⟩ := b_wp_g h
      refine v_iload_n (f := 1) 1 rfl dX2_recall_40 ?_
      refine v_bipush ⟨by decide, by decide⟩ (by decide) dX2_recall_41 ?_
      refine v_isubN g9 dX2_recall_43 ?_
      refine v_aload_n (f := 0) 0 rfl dX2_recall_44 ?_
      refine v_getR (kf := 19) (kz := 19) rfl kd_7 rfl ⟨by decide, by decide⟩ rfl wf_2_49 dX2_recall_45 ?_
      refine v_iconst ⟨by decide, by decide⟩ dX2_recall_48 ?_
      refine v_iaload kd_141 ⟨by decide, by decide⟩ (by decide) dX2_recall_49 ?_
      refine v_icmp_ge (tgt := 57) dX2_recall_50 (by decide) (fun c10 => ?_) (fun c10 => ?_)
      · replace h := b_wp_t c10 h
        exact t_X2_recall_b57 h
      · replace h := b_wp_f c10 h
        refine v_iconst ⟨by decide, by decide⟩ dX2_recall_53 ?_
        refine v_goto (tgt := 58) dX2_recall_54 (by decide) ?_
        exact t_X2_recall_b58 h
noncomputable def F_X2_recall (v1 : Int) (M : bM) : Option (Int) :=
  if (M 141 3) = (-1) then (some (-1)) else (if v1 < 0 then (F_X2_recall_b28 v1 M) else (if 3 < v1 then (F_X2_recall_b28 v1 M) else (b_g (0 ≤ v1 ∧ v1 < 12) (some (M 141 v1)))))
theorem t_X2_recall {l : Launch} {E : bE} {Q : Int → Prop} {v1 : Int} {M : bM} (h : b_wp (F_X2_recall v1 M) (Q)) : V l E xX2_recall (0, 0) 0 [(0, bR 7), (1, bI v1)] [] M (b_pIp M Q) := by
  unfold F_X2_recall at h
  refine v_aload_n (f := 0) 0 rfl dX2_recall_0 ?_
  refine v_getR (kf := 19) (kz := 19) rfl kd_7 rfl ⟨by decide, by decide⟩ rfl wf_2_49 dX2_recall_1 ?_
  refine v_iconst ⟨by decide, by decide⟩ dX2_recall_4 ?_
  refine v_iaload kd_141 ⟨by decide, by decide⟩ (by decide) dX2_recall_5 ?_
  refine v_iconst ⟨by decide, by decide⟩ dX2_recall_6 ?_
  refine v_icmp_ne (tgt := 12) dX2_recall_7 (by decide) (fun c1 => ?_) (fun c1 => ?_)
  · replace h := b_wp_f c1 h
    refine v_iload_n (f := 1) 1 rfl dX2_recall_12 ?_
    refine v_if_lt (tgt := 28) dX2_recall_13 (by decide) (fun c2 => ?_) (fun c2 => ?_)
    · replace h := b_wp_t c2 h
      exact t_X2_recall_b28 h
    · replace h := b_wp_f c2 h
      refine v_iload_n (f := 1) 1 rfl dX2_recall_16 ?_
      refine v_iconst ⟨by decide, by decide⟩ dX2_recall_17 ?_
      refine v_icmp_gt (tgt := 28) dX2_recall_18 (by decide) (fun c11 => ?_) (fun c11 => ?_)
      · replace h := b_wp_t c11 h
        exact t_X2_recall_b28 h
      · replace h := b_wp_f c11 h
        obtain ⟨g12, h⟩ := b_wp_g h
        refine v_aload_n (f := 0) 0 rfl dX2_recall_21 ?_
        refine v_getR (kf := 19) (kz := 19) rfl kd_7 rfl ⟨by decide, by decide⟩ rfl wf_2_49 dX2_recall_22 ?_
        refine v_iload_n (f := 1) 1 rfl dX2_recall_25 ?_
        refine v_iaload kd_141 g12 (by decide) dX2_recall_26 ?_
        refine v_ireturn rfl dX2_recall_27 ⟨by decide, by decide⟩ ?_
        exact ⟨_, rfl, rfl, h⟩
  · replace h := b_wp_t c1 h
    refine v_iconst ⟨by decide, by decide⟩ dX2_recall_10 ?_
    refine v_ireturn rfl dX2_recall_11 ⟨by decide, by decide⟩ ?_
    exact ⟨_, rfl, rfl, h⟩
theorem cf_X2_recall {l : Launch} {E : bE} {M : bM} {v1 : Int} {Q : Int → Prop} (h : b_wp (F_X2_recall v1 M) Q) : b_C l E xX2_recall yX2_recall [bR 7, bI v1] M (b_pIp M Q) := b_met (by decide) ⟨rfl, rfl⟩ (Nat.le_of_ble_eq_true rfl) (fun _ _ => t_X2_recall h)
abbrev xX11_linked : bX := ("BurntHall", prog_1_method_37_code, 2, (Option.some Jvm.ClassFile.FieldType.int), b_rm 2 0 0, 0, "linked")
abbrev yX11_linked : MethodName := ⟨"BurntHall", "linked", "(I)I"⟩
theorem dX11_linked_0 : decode prog_1_method_37_code 0 = .ok (.aload_n 0, 1) := by decide +kernel
theorem dX11_linked_1 : decode prog_1_method_37_code 1 = .ok (.getfield 60, 3) := by decide +kernel
theorem dX11_linked_4 : decode prog_1_method_37_code 4 = .ok (.iload_n 1, 1) := by decide +kernel
theorem dX11_linked_5 : decode prog_1_method_37_code 5 = .ok (.invokevirtual 300, 3) := by decide +kernel
theorem dX11_linked_8 : decode prog_1_method_37_code 8 = .ok (.ireturn, 1) := by decide +kernel
noncomputable def F_X11_linked (v1 : Int) (M : bM) : Option (Int) :=
  b_bind (F_X2_recall v1 M) (fun x1 => some x1)
theorem t_X11_linked {l : Launch} {E : bE} {Q : Int → Prop} {v1 : Int} {M : bM} (h : b_wp (F_X11_linked v1 M) (Q)) : V l E xX11_linked (0, 0) 0 [(0, bR 0), (1, bI v1)] [] M (b_pIp M Q) := by
  unfold F_X11_linked at h
  refine v_aload_n (f := 0) 0 rfl dX11_linked_0 ?_
  refine v_getR (kf := 6) (kz := 6) rfl kd_0 rfl ⟨by decide, by decide⟩ rfl wf_11_60 dX11_linked_1 ?_
  refine v_iload_n (f := 1) 1 rfl dX11_linked_4 ?_
  refine v_cVIp (nA := 1) (As := [bI _]) (ix := 300) (cf_X2_recall (b_wp_b h)) rfl kd_7 rfl rfl wc_X2_recall wm_11_300 wi_X2_recall ws_X2_recall wn_2 ⟨by decide, by decide, by decide⟩ rfl ⟨by decide, by decide⟩ ⟨by decide, by decide⟩ (Nat.le_of_ble_eq_true rfl) dX11_linked_5 (fun x1 h => ?_)
  refine v_ireturn rfl dX11_linked_8 ⟨by decide, by decide⟩ ?_
  exact ⟨_, rfl, rfl, h⟩
theorem cf_X11_linked {l : Launch} {E : bE} {M : bM} {v1 : Int} {Q : Int → Prop} (h : b_wp (F_X11_linked v1 M) Q) : b_C l E xX11_linked yX11_linked [bR 0, bI v1] M (b_pIp M Q) := b_met (by decide) ⟨rfl, rfl⟩ (Nat.le_of_ble_eq_true rfl) (fun _ _ => t_X11_linked h)
abbrev xX2_linkOf : bX := ("BurntHall$Chains", prog_4_method_24_code, 3, (Option.some Jvm.ClassFile.FieldType.int), b_rm 1 0 0, 0, "linkOf")
abbrev yX2_linkOf : MethodName := ⟨"BurntHall$Chains", "linkOf", "(I)I"⟩
theorem dX2_linkOf_0 : decode prog_4_method_24_code 0 = .ok (.iconst 0, 1) := by decide +kernel
theorem dX2_linkOf_1 : decode prog_4_method_24_code 1 = .ok (.istore_n 2, 1) := by decide +kernel
theorem dX2_linkOf_2 : decode prog_4_method_24_code 2 = .ok (.iload_n 2, 1) := by decide +kernel
theorem dX2_linkOf_3 : decode prog_4_method_24_code 3 = .ok (.aload_n 0, 1) := by decide +kernel
theorem dX2_linkOf_4 : decode prog_4_method_24_code 4 = .ok (.getfield 129, 3) := by decide +kernel
theorem dX2_linkOf_7 : decode prog_4_method_24_code 7 = .ok (.if_icmp .ge 21, 3) := by decide +kernel
theorem dX2_linkOf_10 : decode prog_4_method_24_code 10 = .ok (.aload_n 0, 1) := by decide +kernel
theorem dX2_linkOf_11 : decode prog_4_method_24_code 11 = .ok (.getfield 13, 3) := by decide +kernel
theorem dX2_linkOf_14 : decode prog_4_method_24_code 14 = .ok (.iload_n 2, 1) := by decide +kernel
theorem dX2_linkOf_15 : decode prog_4_method_24_code 15 = .ok (.iaload, 1) := by decide +kernel
theorem dX2_linkOf_16 : decode prog_4_method_24_code 16 = .ok (.iload_n 1, 1) := by decide +kernel
theorem dX2_linkOf_17 : decode prog_4_method_24_code 17 = .ok (.if_icmp .ne 5, 3) := by decide +kernel
theorem dX2_linkOf_20 : decode prog_4_method_24_code 20 = .ok (.iload_n 2, 1) := by decide +kernel
theorem dX2_linkOf_21 : decode prog_4_method_24_code 21 = .ok (.ireturn, 1) := by decide +kernel
theorem dX2_linkOf_22 : decode prog_4_method_24_code 22 = .ok (.iinc 2 1, 3) := by decide +kernel
theorem dX2_linkOf_25 : decode prog_4_method_24_code 25 = .ok (.goto (-23), 3) := by decide +kernel
theorem dX2_linkOf_28 : decode prog_4_method_24_code 28 = .ok (.iconst (-1), 1) := by decide +kernel
theorem dX2_linkOf_29 : decode prog_4_method_24_code 29 = .ok (.ireturn, 1) := by decide +kernel
abbrev A_X2_linkOf_2 (l : Launch) (E : bE) (Q : Int → Prop) (v1 : Int) (M : bM) : (Int) → Prop := (fun t : Int => V l E xX2_linkOf (0, 0) 2 [(0, bR 7), (1, bI v1), (2, bI t)] [] M (b_pIp M Q))
abbrev X_X2_linkOf_2 (l : Launch) (E : bE) (Q : Int → Prop) (v1 : Int) (M : bM) : ((Unit) ⊕ Int) → Prop := (Sum.elim (fun t : Unit => V l E xX2_linkOf (0, 0) 28 [] [] M (b_pIp M Q)) Q)
noncomputable def F_X2_linkOf_s2 (v1 : Int) (v2 : Int) (M : bM) : Option ((Int) ⊕ ((Unit) ⊕ Int)) :=
  if (M 7 6) ≤ v2 then (some (.inr (.inl ()))) else (b_g (0 ≤ v2 ∧ v2 < 30) (if (M 130 v2) = v1 then (some (.inr (.inr v2))) else (b_g (b_i32 (v2 + 1)) (some (.inl ((v2 + 1)))))))
theorem t_X2_linkOf_s2 {l : Launch} {E : bE} {Q : Int → Prop} {v1 : Int} {v2 : Int} {M : bM} (h : b_wp (F_X2_linkOf_s2 v1 v2 M) (Sum.elim (A_X2_linkOf_2 l E Q v1 M) (X_X2_linkOf_2 l E Q v1 M))) : V l E xX2_linkOf (0, 0) 2 [(0, bR 7), (1, bI v1), (2, bI v2)] [] M (b_pIp M Q) := by
  unfold F_X2_linkOf_s2 at h
  refine v_iload_n (f := 2) 2 rfl dX2_linkOf_2 ?_
  refine v_aload_n (f := 0) 0 rfl dX2_linkOf_3 ?_
  refine v_getI (kf := 6) (kz := 6) rfl kd_7 rfl ⟨by decide, by decide⟩ rfl wf_2_129 dX2_linkOf_4 ?_
  refine v_icmp_ge (tgt := 28) dX2_linkOf_7 (by decide) (fun c1 => ?_) (fun c1 => ?_)
  · replace h := b_wp_t c1 h
    refine v_sub (ls2 := []) [] rfl ?_
    exact h
  · replace h := b_wp_f c1 h
    obtain ⟨g2, h⟩ := b_wp_g h
    refine v_aload_n (f := 0) 0 rfl dX2_linkOf_10 ?_
    refine v_getR (kf := 7) (kz := 7) rfl kd_7 rfl ⟨by decide, by decide⟩ rfl wf_2_13 dX2_linkOf_11 ?_
    refine v_iload_n (f := 2) 2 rfl dX2_linkOf_14 ?_
    refine v_iaload kd_130 g2 (by decide) dX2_linkOf_15 ?_
    refine v_iload_n (f := 1) 1 rfl dX2_linkOf_16 ?_
    refine v_icmp_ne (tgt := 22) dX2_linkOf_17 (by decide) (fun c3 => ?_) (fun c3 => ?_)
    · replace h := b_wp_f c3 h
      obtain ⟨g4, h⟩ := b_wp_g h
      refine v_iincN (ls' := [(2, bI _), (0, bR _), (1, bI _)]) 2 rfl (by decide) g4 dX2_linkOf_22 rfl ?_
      refine v_goto (tgt := 2) dX2_linkOf_25 (by decide) ?_
      refine v_sub (ls2 := [(0, bR _), (1, bI _), (2, bI _)]) [1, 2, 0] rfl ?_
      exact h
    · replace h := b_wp_t c3 h
      refine v_iload_n (f := 2) 2 rfl dX2_linkOf_20 ?_
      refine v_ireturn rfl dX2_linkOf_21 ⟨by decide, by decide⟩ ?_
      exact ⟨_, rfl, rfl, h⟩
theorem l_X2_linkOf_2 {l : Launch} {E : bE} {Q : Int → Prop} {v1 : Int} {M : bM} {s : Int} (h : b_wp (b_loop (fun t => F_X2_linkOf_s2 v1 t M) s) (X_X2_linkOf_2 l E Q v1 M)) : A_X2_linkOf_2 l E Q v1 M s := b_loop_wp (fun t h => t_X2_linkOf_s2 h) s h
noncomputable def F_X2_linkOf_b28 (M : bM) : Option (Int) :=
  some (-1)
theorem t_X2_linkOf_b28 {l : Launch} {E : bE} {Q : Int → Prop} {M : bM} (h : b_wp (F_X2_linkOf_b28 M) (Q)) : V l E xX2_linkOf (0, 0) 28 [] [] M (b_pIp M Q) := by
  unfold F_X2_linkOf_b28 at h
  refine v_iconst ⟨by decide, by decide⟩ dX2_linkOf_28 ?_
  refine v_ireturn rfl dX2_linkOf_29 ⟨by decide, by decide⟩ ?_
  exact ⟨_, rfl, rfl, h⟩
noncomputable def F_X2_linkOf (v1 : Int) (M : bM) : Option (Int) :=
  b_bind (b_loop (fun t => F_X2_linkOf_s2 v1 t M) (0)) (Sum.elim (fun t => F_X2_linkOf_b28 M) some)
theorem t_X2_linkOf {l : Launch} {E : bE} {Q : Int → Prop} {v1 : Int} {M : bM} (h : b_wp (F_X2_linkOf v1 M) (Q)) : V l E xX2_linkOf (0, 0) 0 [(0, bR 7), (1, bI v1)] [] M (b_pIp M Q) := by
  unfold F_X2_linkOf at h
  refine v_iconst ⟨by decide, by decide⟩ dX2_linkOf_0 ?_
  refine v_istore_n (g := 2) (i := 2) (ls' := [(2, bI _), (0, bR _), (1, bI _)]) rfl (by decide) dX2_linkOf_1 rfl ?_
  refine v_sub (ls2 := [(0, bR _), (1, bI _), (2, bI _)]) [1, 2, 0] rfl ?_
  refine l_X2_linkOf_2 (b_wp_m (fun t h => ?_) (b_wp_b h))
  cases t with
  | inr o => exact h
  | inl t =>
    show V l E xX2_linkOf (0, 0) 28 [] [] _ (b_pIp M Q)
    replace h := b_wp_inl h
    exact t_X2_linkOf_b28 h
theorem cf_X2_linkOf {l : Launch} {E : bE} {M : bM} {v1 : Int} {Q : Int → Prop} (h : b_wp (F_X2_linkOf v1 M) Q) : b_C l E xX2_linkOf yX2_linkOf [bR 7, bI v1] M (b_pIp M Q) := b_met (by decide) ⟨rfl, rfl⟩ (Nat.le_of_ble_eq_true rfl) (fun _ _ => t_X2_linkOf h)
abbrev xX2_gapsOfRow : bX := ("BurntHall$Chains", prog_4_method_26_code, 8, (Option.some Jvm.ClassFile.FieldType.int), b_rm 2 0 0, 0, "gapsOfRow")
abbrev yX2_gapsOfRow : MethodName := ⟨"BurntHall$Chains", "gapsOfRow", "(II)I"⟩
theorem dX2_gapsOfRow_0 : decode prog_4_method_26_code 0 = .ok (.bipush 30, 2) := by decide +kernel
theorem dX2_gapsOfRow_2 : decode prog_4_method_26_code 2 = .ok (.iload_n 1, 1) := by decide +kernel
theorem dX2_gapsOfRow_3 : decode prog_4_method_26_code 3 = .ok (.iadd, 1) := by decide +kernel
theorem dX2_gapsOfRow_4 : decode prog_4_method_26_code 4 = .ok (.istore_n 3, 1) := by decide +kernel
theorem dX2_gapsOfRow_5 : decode prog_4_method_26_code 5 = .ok (.aload_n 0, 1) := by decide +kernel
theorem dX2_gapsOfRow_6 : decode prog_4_method_26_code 6 = .ok (.getfield 56, 3) := by decide +kernel
theorem dX2_gapsOfRow_9 : decode prog_4_method_26_code 9 = .ok (.getfield 180, 3) := by decide +kernel
theorem dX2_gapsOfRow_12 : decode prog_4_method_26_code 12 = .ok (.iload_n 1, 1) := by decide +kernel
theorem dX2_gapsOfRow_13 : decode prog_4_method_26_code 13 = .ok (.iaload, 1) := by decide +kernel
theorem dX2_gapsOfRow_14 : decode prog_4_method_26_code 14 = .ok (.istore 4, 2) := by decide +kernel
theorem dX2_gapsOfRow_16 : decode prog_4_method_26_code 16 = .ok (.iconst 0, 1) := by decide +kernel
theorem dX2_gapsOfRow_17 : decode prog_4_method_26_code 17 = .ok (.istore 5, 2) := by decide +kernel
theorem dX2_gapsOfRow_19 : decode prog_4_method_26_code 19 = .ok (.iconst 0, 1) := by decide +kernel
theorem dX2_gapsOfRow_20 : decode prog_4_method_26_code 20 = .ok (.istore 6, 2) := by decide +kernel
theorem dX2_gapsOfRow_22 : decode prog_4_method_26_code 22 = .ok (.iload 6, 2) := by decide +kernel
theorem dX2_gapsOfRow_24 : decode prog_4_method_26_code 24 = .ok (.iload_n 2, 1) := by decide +kernel
theorem dX2_gapsOfRow_25 : decode prog_4_method_26_code 25 = .ok (.if_icmp .ge 74, 3) := by decide +kernel
theorem dX2_gapsOfRow_28 : decode prog_4_method_26_code 28 = .ok (.iload 6, 2) := by decide +kernel
theorem dX2_gapsOfRow_30 : decode prog_4_method_26_code 30 = .ok (.bipush 8, 2) := by decide +kernel
theorem dX2_gapsOfRow_32 : decode prog_4_method_26_code 32 = .ok (.if_icmp .ge 67, 3) := by decide +kernel
theorem dX2_gapsOfRow_35 : decode prog_4_method_26_code 35 = .ok (.aload_n 0, 1) := by decide +kernel
theorem dX2_gapsOfRow_36 : decode prog_4_method_26_code 36 = .ok (.getfield 43, 3) := by decide +kernel
theorem dX2_gapsOfRow_39 : decode prog_4_method_26_code 39 = .ok (.iload 6, 2) := by decide +kernel
theorem dX2_gapsOfRow_41 : decode prog_4_method_26_code 41 = .ok (.iaload, 1) := by decide +kernel
theorem dX2_gapsOfRow_42 : decode prog_4_method_26_code 42 = .ok (.istore 7, 2) := by decide +kernel
theorem dX2_gapsOfRow_44 : decode prog_4_method_26_code 44 = .ok (.aload_n 0, 1) := by decide +kernel
theorem dX2_gapsOfRow_45 : decode prog_4_method_26_code 45 = .ok (.getfield 20, 3) := by decide +kernel
theorem dX2_gapsOfRow_48 : decode prog_4_method_26_code 48 = .ok (.iload 7, 2) := by decide +kernel
theorem dX2_gapsOfRow_50 : decode prog_4_method_26_code 50 = .ok (.iaload, 1) := by decide +kernel
theorem dX2_gapsOfRow_51 : decode prog_4_method_26_code 51 = .ok (.iload 4, 2) := by decide +kernel
theorem dX2_gapsOfRow_53 : decode prog_4_method_26_code 53 = .ok (.if_icmp .ge 5, 3) := by decide +kernel
theorem dX2_gapsOfRow_56 : decode prog_4_method_26_code 56 = .ok (.iconst (-1), 1) := by decide +kernel
theorem dX2_gapsOfRow_57 : decode prog_4_method_26_code 57 = .ok (.ireturn, 1) := by decide +kernel
theorem dX2_gapsOfRow_58 : decode prog_4_method_26_code 58 = .ok (.iload 5, 2) := by decide +kernel
theorem dX2_gapsOfRow_60 : decode prog_4_method_26_code 60 = .ok (.iconst 1, 1) := by decide +kernel
theorem dX2_gapsOfRow_61 : decode prog_4_method_26_code 61 = .ok (.aload_n 0, 1) := by decide +kernel
theorem dX2_gapsOfRow_62 : decode prog_4_method_26_code 62 = .ok (.getfield 34, 3) := by decide +kernel
theorem dX2_gapsOfRow_65 : decode prog_4_method_26_code 65 = .ok (.iload_n 3, 1) := by decide +kernel
theorem dX2_gapsOfRow_66 : decode prog_4_method_26_code 66 = .ok (.iaload, 1) := by decide +kernel
theorem dX2_gapsOfRow_67 : decode prog_4_method_26_code 67 = .ok (.iload 7, 2) := by decide +kernel
theorem dX2_gapsOfRow_69 : decode prog_4_method_26_code 69 = .ok (.iushr, 1) := by decide +kernel
theorem dX2_gapsOfRow_70 : decode prog_4_method_26_code 70 = .ok (.iconst 1, 1) := by decide +kernel
theorem dX2_gapsOfRow_71 : decode prog_4_method_26_code 71 = .ok (.iand, 1) := by decide +kernel
theorem dX2_gapsOfRow_72 : decode prog_4_method_26_code 72 = .ok (.isub, 1) := by decide +kernel
theorem dX2_gapsOfRow_73 : decode prog_4_method_26_code 73 = .ok (.iadd, 1) := by decide +kernel
theorem dX2_gapsOfRow_74 : decode prog_4_method_26_code 74 = .ok (.istore 5, 2) := by decide +kernel
theorem dX2_gapsOfRow_76 : decode prog_4_method_26_code 76 = .ok (.iload 4, 2) := by decide +kernel
theorem dX2_gapsOfRow_78 : decode prog_4_method_26_code 78 = .ok (.aload_n 0, 1) := by decide +kernel
theorem dX2_gapsOfRow_79 : decode prog_4_method_26_code 79 = .ok (.getfield 17, 3) := by decide +kernel
theorem dX2_gapsOfRow_82 : decode prog_4_method_26_code 82 = .ok (.iload 7, 2) := by decide +kernel
theorem dX2_gapsOfRow_84 : decode prog_4_method_26_code 84 = .ok (.iaload, 1) := by decide +kernel
theorem dX2_gapsOfRow_85 : decode prog_4_method_26_code 85 = .ok (.invokestatic 197, 3) := by decide +kernel
theorem dX2_gapsOfRow_88 : decode prog_4_method_26_code 88 = .ok (.istore 4, 2) := by decide +kernel
theorem dX2_gapsOfRow_90 : decode prog_4_method_26_code 90 = .ok (.iload 7, 2) := by decide +kernel
theorem dX2_gapsOfRow_92 : decode prog_4_method_26_code 92 = .ok (.istore_n 3, 1) := by decide +kernel
theorem dX2_gapsOfRow_93 : decode prog_4_method_26_code 93 = .ok (.iinc 6 1, 3) := by decide +kernel
theorem dX2_gapsOfRow_96 : decode prog_4_method_26_code 96 = .ok (.goto (-74), 3) := by decide +kernel
theorem dX2_gapsOfRow_99 : decode prog_4_method_26_code 99 = .ok (.iload 5, 2) := by decide +kernel
theorem dX2_gapsOfRow_101 : decode prog_4_method_26_code 101 = .ok (.ireturn, 1) := by decide +kernel
abbrev A_X2_gapsOfRow_22 (l : Launch) (E : bE) (Q : Int → Prop) (v2 : Int) (M : bM) : (Int × Int × Int × Int) → Prop := (fun t : Int × Int × Int × Int => V l E xX2_gapsOfRow (0, 0) 22 [(0, bR 7), (2, bI v2), (3, bI (t.1)), (4, bI (t.2.1)), (5, bI (t.2.2.1)), (6, bI (t.2.2.2))] [] M (b_pIp M Q))
abbrev X_X2_gapsOfRow_22 (l : Launch) (E : bE) (Q : Int → Prop) (v2 : Int) (M : bM) : ((Int) ⊕ Int) → Prop := (Sum.elim (fun t : Int => V l E xX2_gapsOfRow (0, 0) 99 [(5, bI t)] [] M (b_pIp M Q)) Q)
noncomputable def F_X2_gapsOfRow_s22 (v2 : Int) (v3 : Int) (v4 : Int) (v5 : Int) (v6 : Int) (M : bM) : Option ((Int × Int × Int × Int) ⊕ ((Int) ⊕ Int)) :=
  if v2 ≤ v6 then (some (.inr (.inl (v5)))) else (if 8 ≤ v6 then (some (.inr (.inl (v5)))) else (b_g (0 ≤ v6 ∧ v6 < 8) (b_let ((M 139 v6)) (fun y6 => b_g (0 ≤ y6 ∧ y6 < 30) (if v4 ≤ (M 132 y6) then (b_g ((0 ≤ v3 ∧ v3 < 90) ∧ (b_i32 (1 - (i_and (i_ushr (M 136 v3) y6) 1))) ∧ (b_i32 (v5 + (1 - (i_and (i_ushr (M 136 v3) y6) 1))))) (b_let ((v5 + (1 - (i_and (i_ushr (M 136 v3) y6) 1)))) (fun y12 => b_g (0 ≤ y6 ∧ y6 < 30) (b_let ((max v4 (M 131 y6))) (fun y14 => b_g (b_i32 (v6 + 1)) (some (.inl (y6, y14, y12, (v6 + 1))))))))) else (some (.inr (.inr (-1)))))))))
theorem t_X2_gapsOfRow_s22 {l : Launch} {E : bE} {Q : Int → Prop} {v2 : Int} {v3 : Int} {v4 : Int} {v5 : Int} {v6 : Int} {M : bM} (h : b_wp (F_X2_gapsOfRow_s22 v2 v3 v4 v5 v6 M) (Sum.elim (A_X2_gapsOfRow_22 l E Q v2 M) (X_X2_gapsOfRow_22 l E Q v2 M))) : V l E xX2_gapsOfRow (0, 0) 22 [(0, bR 7), (2, bI v2), (3, bI v3), (4, bI v4), (5, bI v5), (6, bI v6)] [] M (b_pIp M Q) := by
  unfold F_X2_gapsOfRow_s22 at h
  refine v_iload (i := 6) 5 rfl dX2_gapsOfRow_22 ?_
  refine v_iload_n (f := 2) 1 rfl dX2_gapsOfRow_24 ?_
  refine v_icmp_ge (tgt := 99) dX2_gapsOfRow_25 (by decide) (fun c3 => ?_) (fun c3 => ?_)
  · replace h := b_wp_t c3 h
    refine v_sub (ls2 := [(5, bI _)]) [4] rfl ?_
    exact h
  · replace h := b_wp_f c3 h
    refine v_iload (i := 6) 5 rfl dX2_gapsOfRow_28 ?_
    refine v_bipush ⟨by decide, by decide⟩ (by decide) dX2_gapsOfRow_30 ?_
    refine v_icmp_ge (tgt := 99) dX2_gapsOfRow_32 (by decide) (fun c4 => ?_) (fun c4 => ?_)
    · replace h := b_wp_t c4 h
      refine v_sub (ls2 := [(5, bI _)]) [4] rfl ?_
      exact h
    · replace h := b_wp_f c4 h
      obtain ⟨g5, h⟩ := b_wp_g h
      refine v_aload_n (f := 0) 0 rfl dX2_gapsOfRow_35 ?_
      refine v_getR (kf := 17) (kz := 17) rfl kd_7 rfl ⟨by decide, by decide⟩ rfl wf_2_43 dX2_gapsOfRow_36 ?_
      refine v_iload (i := 6) 5 rfl dX2_gapsOfRow_39 ?_
      refine v_iaload kd_139 g5 (by decide) dX2_gapsOfRow_41 ?_
      replace h := b_wp_l h
      obtain ⟨g7, h⟩ := b_wp_g h
      refine v_istore (i := 7) (ls' := [(7, bI _), (0, bR _), (2, bI _), (3, bI _), (4, bI _), (5, bI _), (6, bI _)]) (by decide) dX2_gapsOfRow_42 rfl ?_
      refine v_aload_n (f := 0) 1 rfl dX2_gapsOfRow_44 ?_
      refine v_getR (kf := 9) (kz := 9) rfl kd_7 rfl ⟨by decide, by decide⟩ rfl wf_2_20 dX2_gapsOfRow_45 ?_
      refine v_iload (i := 7) 0 rfl dX2_gapsOfRow_48 ?_
      refine v_iaload kd_132 g7 (by decide) dX2_gapsOfRow_50 ?_
      refine v_iload (i := 4) 4 rfl dX2_gapsOfRow_51 ?_
      refine v_icmp_ge (tgt := 58) dX2_gapsOfRow_53 (by decide) (fun c8 => ?_) (fun c8 => ?_)
      · replace h := b_wp_t c8 h
        obtain ⟨⟨g9, g10, g11⟩, h⟩ := b_wp_g h
        refine v_iload (i := 5) 5 rfl dX2_gapsOfRow_58 ?_
        refine v_iconst ⟨by decide, by decide⟩ dX2_gapsOfRow_60 ?_
        refine v_aload_n (f := 0) 1 rfl dX2_gapsOfRow_61 ?_
        refine v_getR (kf := 14) (kz := 14) rfl kd_7 rfl ⟨by decide, by decide⟩ rfl wf_2_34 dX2_gapsOfRow_62 ?_
        refine v_iload_n (f := 3) 3 rfl dX2_gapsOfRow_65 ?_
        refine v_iaload kd_136 g9 (by decide) dX2_gapsOfRow_66 ?_
        refine v_iload (i := 7) 0 rfl dX2_gapsOfRow_67 ?_
        refine v_iushr (v := i_ushr _ _) rfl dX2_gapsOfRow_69 ?_
        refine v_iconst ⟨by decide, by decide⟩ dX2_gapsOfRow_70 ?_
        refine v_iand (v := i_and _ _) rfl dX2_gapsOfRow_71 ?_
        refine v_isubN g10 dX2_gapsOfRow_72 ?_
        refine v_iaddN g11 dX2_gapsOfRow_73 ?_
        replace h := b_wp_l h
        obtain ⟨g13, h⟩ := b_wp_g h
        refine v_istore (i := 5) (ls' := [(5, bI _), (7, bI _), (0, bR _), (2, bI _), (3, bI _), (4, bI _), (6, bI _)]) (by decide) dX2_gapsOfRow_74 rfl ?_
        refine v_iload (i := 4) 5 rfl dX2_gapsOfRow_76 ?_
        refine v_aload_n (f := 0) 2 rfl dX2_gapsOfRow_78 ?_
        refine v_getR (kf := 8) (kz := 8) rfl kd_7 rfl ⟨by decide, by decide⟩ rfl wf_2_17 dX2_gapsOfRow_79 ?_
        refine v_iload (i := 7) 1 rfl dX2_gapsOfRow_82 ?_
        refine v_iaload kd_131 g13 (by decide) dX2_gapsOfRow_84 ?_
        refine v_mmax wm_2_197 wma_max wmi wmc_max ⟨by decide, by decide⟩ ⟨by decide, by decide⟩ (Nat.le_of_ble_eq_true rfl) dX2_gapsOfRow_85 ?_
        replace h := b_wp_l h
        obtain ⟨g15, h⟩ := b_wp_g h
        refine v_istore (i := 4) (ls' := [(4, bI _), (5, bI _), (7, bI _), (0, bR _), (2, bI _), (3, bI _), (6, bI _)]) (by decide) dX2_gapsOfRow_88 rfl ?_
        refine v_iload (i := 7) 2 rfl dX2_gapsOfRow_90 ?_
        refine v_istore_n (g := 3) (i := 3) (ls' := [(3, bI _), (4, bI _), (5, bI _), (7, bI _), (0, bR _), (2, bI _), (6, bI _)]) rfl (by decide) dX2_gapsOfRow_92 rfl ?_
        refine v_iincN (ls' := [(6, bI _), (3, bI _), (4, bI _), (5, bI _), (7, bI _), (0, bR _), (2, bI _)]) 6 rfl (by decide) g15 dX2_gapsOfRow_93 rfl ?_
        refine v_goto (tgt := 22) dX2_gapsOfRow_96 (by decide) ?_
        refine v_sub (ls2 := [(0, bR _), (2, bI _), (3, bI _), (4, bI _), (5, bI _), (6, bI _)]) [5, 6, 1, 2, 3, 0] rfl ?_
        exact h
      · replace h := b_wp_f c8 h
        refine v_iconst ⟨by decide, by decide⟩ dX2_gapsOfRow_56 ?_
        refine v_ireturn rfl dX2_gapsOfRow_57 ⟨by decide, by decide⟩ ?_
        exact ⟨_, rfl, rfl, h⟩
theorem l_X2_gapsOfRow_22 {l : Launch} {E : bE} {Q : Int → Prop} {v2 : Int} {M : bM} {s : Int × Int × Int × Int} (h : b_wp (b_loop (fun t => F_X2_gapsOfRow_s22 v2 t.1 t.2.1 t.2.2.1 t.2.2.2 M) s) (X_X2_gapsOfRow_22 l E Q v2 M)) : A_X2_gapsOfRow_22 l E Q v2 M s := b_loop_wp (fun t h => t_X2_gapsOfRow_s22 h) s h
noncomputable def F_X2_gapsOfRow_b99 (v5 : Int) (M : bM) : Option (Int) :=
  some v5
theorem t_X2_gapsOfRow_b99 {l : Launch} {E : bE} {Q : Int → Prop} {v5 : Int} {M : bM} (h : b_wp (F_X2_gapsOfRow_b99 v5 M) (Q)) : V l E xX2_gapsOfRow (0, 0) 99 [(5, bI v5)] [] M (b_pIp M Q) := by
  unfold F_X2_gapsOfRow_b99 at h
  refine v_iload (i := 5) 0 rfl dX2_gapsOfRow_99 ?_
  refine v_ireturn rfl dX2_gapsOfRow_101 ⟨by decide, by decide⟩ ?_
  exact ⟨_, rfl, rfl, h⟩
noncomputable def F_X2_gapsOfRow (v1 : Int) (v2 : Int) (M : bM) : Option (Int) :=
  b_g ((b_i32 (30 + v1)) ∧ (0 ≤ v1 ∧ v1 < 60)) (b_bind (b_loop (fun t => F_X2_gapsOfRow_s22 v2 t.1 t.2.1 t.2.2.1 t.2.2.2 M) ((30 + v1), (M 93 v1), 0, 0)) (Sum.elim (fun t => F_X2_gapsOfRow_b99 t M) some))
theorem t_X2_gapsOfRow {l : Launch} {E : bE} {Q : Int → Prop} {v1 : Int} {v2 : Int} {M : bM} (h : b_wp (F_X2_gapsOfRow v1 v2 M) (Q)) : V l E xX2_gapsOfRow (0, 0) 0 [(0, bR 7), (1, bI v1), (2, bI v2)] [] M (b_pIp M Q) := by
  unfold F_X2_gapsOfRow at h
  obtain ⟨⟨g1, g2⟩, h⟩ := b_wp_g h
  refine v_bipush ⟨by decide, by decide⟩ (by decide) dX2_gapsOfRow_0 ?_
  refine v_iload_n (f := 1) 1 rfl dX2_gapsOfRow_2 ?_
  refine v_iaddN g1 dX2_gapsOfRow_3 ?_
  refine v_istore_n (g := 3) (i := 3) (ls' := [(3, bI _), (0, bR _), (1, bI _), (2, bI _)]) rfl (by decide) dX2_gapsOfRow_4 rfl ?_
  refine v_aload_n (f := 0) 1 rfl dX2_gapsOfRow_5 ?_
  refine v_getR (kf := 1) (kz := 1) rfl kd_7 rfl ⟨by decide, by decide⟩ rfl wf_2_56 dX2_gapsOfRow_6 ?_
  refine v_getR (kf := 9) (kz := 9) rfl kd_3 rfl ⟨by decide, by decide⟩ rfl wf_2_180 dX2_gapsOfRow_9 ?_
  refine v_iload_n (f := 1) 2 rfl dX2_gapsOfRow_12 ?_
  refine v_iaload kd_93 g2 (by decide) dX2_gapsOfRow_13 ?_
  refine v_istore (i := 4) (ls' := [(4, bI _), (3, bI _), (0, bR _), (1, bI _), (2, bI _)]) (by decide) dX2_gapsOfRow_14 rfl ?_
  refine v_iconst ⟨by decide, by decide⟩ dX2_gapsOfRow_16 ?_
  refine v_istore (i := 5) (ls' := [(5, bI _), (4, bI _), (3, bI _), (0, bR _), (1, bI _), (2, bI _)]) (by decide) dX2_gapsOfRow_17 rfl ?_
  refine v_iconst ⟨by decide, by decide⟩ dX2_gapsOfRow_19 ?_
  refine v_istore (i := 6) (ls' := [(6, bI _), (5, bI _), (4, bI _), (3, bI _), (0, bR _), (1, bI _), (2, bI _)]) (by decide) dX2_gapsOfRow_20 rfl ?_
  refine v_sub (ls2 := [(0, bR _), (2, bI _), (3, bI _), (4, bI _), (5, bI _), (6, bI _)]) [4, 6, 3, 2, 1, 0] rfl ?_
  refine l_X2_gapsOfRow_22 (b_wp_m (fun t h => ?_) (b_wp_b h))
  cases t with
  | inr o => exact h
  | inl t =>
    show V l E xX2_gapsOfRow (0, 0) 99 [(5, bI _)] [] _ (b_pIp M Q)
    replace h := b_wp_inl h
    exact t_X2_gapsOfRow_b99 h
theorem cf_X2_gapsOfRow {l : Launch} {E : bE} {M : bM} {v1 : Int} {v2 : Int} {Q : Int → Prop} (h : b_wp (F_X2_gapsOfRow v1 v2 M) Q) : b_C l E xX2_gapsOfRow yX2_gapsOfRow [bR 7, bI v1, bI v2] M (b_pIp M Q) := b_met (by decide) ⟨rfl, rfl⟩ (Nat.le_of_ble_eq_true rfl) (fun _ _ => t_X2_gapsOfRow h)
abbrev xX2_fewestOfRow : bX := ("BurntHall$Chains", prog_4_method_25_code, 5, (Option.some Jvm.ClassFile.FieldType.int), b_rm 3 0 0, 0, "fewestOfRow")
abbrev yX2_fewestOfRow : MethodName := ⟨"BurntHall$Chains", "fewestOfRow", "(I)I"⟩
theorem dX2_fewestOfRow_0 : decode prog_4_method_25_code 0 = .ok (.iconst (-1), 1) := by decide +kernel
theorem dX2_fewestOfRow_1 : decode prog_4_method_25_code 1 = .ok (.istore_n 2, 1) := by decide +kernel
theorem dX2_fewestOfRow_2 : decode prog_4_method_25_code 2 = .ok (.iconst 0, 1) := by decide +kernel
theorem dX2_fewestOfRow_3 : decode prog_4_method_25_code 3 = .ok (.istore_n 3, 1) := by decide +kernel
theorem dX2_fewestOfRow_4 : decode prog_4_method_25_code 4 = .ok (.iload_n 3, 1) := by decide +kernel
theorem dX2_fewestOfRow_5 : decode prog_4_method_25_code 5 = .ok (.aload_n 0, 1) := by decide +kernel
theorem dX2_fewestOfRow_6 : decode prog_4_method_25_code 6 = .ok (.getfield 56, 3) := by decide +kernel
theorem dX2_fewestOfRow_9 : decode prog_4_method_25_code 9 = .ok (.getfield 160, 3) := by decide +kernel
theorem dX2_fewestOfRow_12 : decode prog_4_method_25_code 12 = .ok (.if_icmp .ge 49, 3) := by decide +kernel
theorem dX2_fewestOfRow_15 : decode prog_4_method_25_code 15 = .ok (.aload_n 0, 1) := by decide +kernel
theorem dX2_fewestOfRow_16 : decode prog_4_method_25_code 16 = .ok (.iload_n 3, 1) := by decide +kernel
theorem dX2_fewestOfRow_17 : decode prog_4_method_25_code 17 = .ok (.invokevirtual 174, 3) := by decide +kernel
theorem dX2_fewestOfRow_20 : decode prog_4_method_25_code 20 = .ok (.ifCond .eq 12, 3) := by decide +kernel
theorem dX2_fewestOfRow_23 : decode prog_4_method_25_code 23 = .ok (.aload_n 0, 1) := by decide +kernel
theorem dX2_fewestOfRow_24 : decode prog_4_method_25_code 24 = .ok (.iload_n 3, 1) := by decide +kernel
theorem dX2_fewestOfRow_25 : decode prog_4_method_25_code 25 = .ok (.iload_n 1, 1) := by decide +kernel
theorem dX2_fewestOfRow_26 : decode prog_4_method_25_code 26 = .ok (.invokevirtual 221, 3) := by decide +kernel
theorem dX2_fewestOfRow_29 : decode prog_4_method_25_code 29 = .ok (.goto 4, 3) := by decide +kernel
theorem dX2_fewestOfRow_32 : decode prog_4_method_25_code 32 = .ok (.iconst (-1), 1) := by decide +kernel
theorem dX2_fewestOfRow_33 : decode prog_4_method_25_code 33 = .ok (.istore 4, 2) := by decide +kernel
theorem dX2_fewestOfRow_35 : decode prog_4_method_25_code 35 = .ok (.iload 4, 2) := by decide +kernel
theorem dX2_fewestOfRow_37 : decode prog_4_method_25_code 37 = .ok (.iconst (-1), 1) := by decide +kernel
theorem dX2_fewestOfRow_38 : decode prog_4_method_25_code 38 = .ok (.if_icmp .eq 17, 3) := by decide +kernel
theorem dX2_fewestOfRow_41 : decode prog_4_method_25_code 41 = .ok (.iload_n 2, 1) := by decide +kernel
theorem dX2_fewestOfRow_42 : decode prog_4_method_25_code 42 = .ok (.iconst (-1), 1) := by decide +kernel
theorem dX2_fewestOfRow_43 : decode prog_4_method_25_code 43 = .ok (.if_icmp .eq 9, 3) := by decide +kernel
theorem dX2_fewestOfRow_46 : decode prog_4_method_25_code 46 = .ok (.iload 4, 2) := by decide +kernel
theorem dX2_fewestOfRow_48 : decode prog_4_method_25_code 48 = .ok (.iload_n 2, 1) := by decide +kernel
theorem dX2_fewestOfRow_49 : decode prog_4_method_25_code 49 = .ok (.if_icmp .ge 6, 3) := by decide +kernel
theorem dX2_fewestOfRow_52 : decode prog_4_method_25_code 52 = .ok (.iload 4, 2) := by decide +kernel
theorem dX2_fewestOfRow_54 : decode prog_4_method_25_code 54 = .ok (.istore_n 2, 1) := by decide +kernel
theorem dX2_fewestOfRow_55 : decode prog_4_method_25_code 55 = .ok (.iinc 3 1, 3) := by decide +kernel
theorem dX2_fewestOfRow_58 : decode prog_4_method_25_code 58 = .ok (.goto (-54), 3) := by decide +kernel
theorem dX2_fewestOfRow_61 : decode prog_4_method_25_code 61 = .ok (.iload_n 2, 1) := by decide +kernel
theorem dX2_fewestOfRow_62 : decode prog_4_method_25_code 62 = .ok (.ireturn, 1) := by decide +kernel
abbrev A_X2_fewestOfRow_4 (l : Launch) (E : bE) (Q : Int → Prop) (v1 : Int) (M : bM) : (Int × Int) → Prop := (fun t : Int × Int => V l E xX2_fewestOfRow (0, 0) 4 [(0, bR 7), (1, bI v1), (2, bI (t.1)), (3, bI (t.2))] [] M (b_pIp M Q))
abbrev X_X2_fewestOfRow_4 (l : Launch) (E : bE) (Q : Int → Prop) (v1 : Int) (M : bM) : (Int) → Prop := (fun t : Int => V l E xX2_fewestOfRow (0, 0) 61 [(2, bI t)] [] M (b_pIp M Q))
noncomputable def F_X2_fewestOfRow_b33 (v1 : Int) (v2 : Int) (v3 : Int) (u0 : Int) (M : bM) : Option ((Int × Int) ⊕ (Int)) :=
  if u0 = (-1) then (b_g (b_i32 (v3 + 1)) (some (.inl (v2, (v3 + 1))))) else (if v2 = (-1) then (b_g (b_i32 (v3 + 1)) (some (.inl (u0, (v3 + 1))))) else (if v2 ≤ u0 then (b_g (b_i32 (v3 + 1)) (some (.inl (v2, (v3 + 1))))) else (b_g (b_i32 (v3 + 1)) (some (.inl (u0, (v3 + 1)))))))
theorem t_X2_fewestOfRow_b33 {l : Launch} {E : bE} {Q : Int → Prop} {v1 : Int} {v2 : Int} {v3 : Int} {u0 : Int} {M : bM} (h : b_wp (F_X2_fewestOfRow_b33 v1 v2 v3 u0 M) (Sum.elim (A_X2_fewestOfRow_4 l E Q v1 M) (X_X2_fewestOfRow_4 l E Q v1 M))) : V l E xX2_fewestOfRow (0, 0) 33 [(0, bR 7), (1, bI v1), (2, bI v2), (3, bI v3)] [bI u0] M (b_pIp M Q) := by
  unfold F_X2_fewestOfRow_b33 at h
  refine v_istore (i := 4) (ls' := [(4, bI _), (0, bR _), (1, bI _), (2, bI _), (3, bI _)]) (by decide) dX2_fewestOfRow_33 rfl ?_
  refine v_iload (i := 4) 0 rfl dX2_fewestOfRow_35 ?_
  refine v_iconst ⟨by decide, by decide⟩ dX2_fewestOfRow_37 ?_
  refine v_icmp_eq (tgt := 55) dX2_fewestOfRow_38 (by decide) (fun c4 => ?_) (fun c4 => ?_)
  · replace h := b_wp_t c4 h
    obtain ⟨g5, h⟩ := b_wp_g h
    refine v_iincN (ls' := [(3, bI _), (4, bI _), (0, bR _), (1, bI _), (2, bI _)]) 4 rfl (by decide) g5 dX2_fewestOfRow_55 rfl ?_
    refine v_goto (tgt := 4) dX2_fewestOfRow_58 (by decide) ?_
    refine v_sub (ls2 := [(0, bR _), (1, bI _), (2, bI _), (3, bI _)]) [2, 3, 4, 0] rfl ?_
    exact h
  · replace h := b_wp_f c4 h
    refine v_iload_n (f := 2) 3 rfl dX2_fewestOfRow_41 ?_
    refine v_iconst ⟨by decide, by decide⟩ dX2_fewestOfRow_42 ?_
    refine v_icmp_eq (tgt := 52) dX2_fewestOfRow_43 (by decide) (fun c6 => ?_) (fun c6 => ?_)
    · replace h := b_wp_t c6 h
      obtain ⟨g7, h⟩ := b_wp_g h
      refine v_iload (i := 4) 0 rfl dX2_fewestOfRow_52 ?_
      refine v_istore_n (g := 2) (i := 2) (ls' := [(2, bI _), (4, bI _), (0, bR _), (1, bI _), (3, bI _)]) rfl (by decide) dX2_fewestOfRow_54 rfl ?_
      refine v_iincN (ls' := [(3, bI _), (2, bI _), (4, bI _), (0, bR _), (1, bI _)]) 4 rfl (by decide) g7 dX2_fewestOfRow_55 rfl ?_
      refine v_goto (tgt := 4) dX2_fewestOfRow_58 (by decide) ?_
      refine v_sub (ls2 := [(0, bR _), (1, bI _), (2, bI _), (3, bI _)]) [3, 4, 1, 0] rfl ?_
      exact h
    · replace h := b_wp_f c6 h
      refine v_iload (i := 4) 0 rfl dX2_fewestOfRow_46 ?_
      refine v_iload_n (f := 2) 3 rfl dX2_fewestOfRow_48 ?_
      refine v_icmp_ge (tgt := 55) dX2_fewestOfRow_49 (by decide) (fun c8 => ?_) (fun c8 => ?_)
      · replace h := b_wp_t c8 h
        obtain ⟨g9, h⟩ := b_wp_g h
        refine v_iincN (ls' := [(3, bI _), (4, bI _), (0, bR _), (1, bI _), (2, bI _)]) 4 rfl (by decide) g9 dX2_fewestOfRow_55 rfl ?_
        refine v_goto (tgt := 4) dX2_fewestOfRow_58 (by decide) ?_
        refine v_sub (ls2 := [(0, bR _), (1, bI _), (2, bI _), (3, bI _)]) [2, 3, 4, 0] rfl ?_
        exact h
      · replace h := b_wp_f c8 h
        obtain ⟨g10, h⟩ := b_wp_g h
        refine v_iload (i := 4) 0 rfl dX2_fewestOfRow_52 ?_
        refine v_istore_n (g := 2) (i := 2) (ls' := [(2, bI _), (4, bI _), (0, bR _), (1, bI _), (3, bI _)]) rfl (by decide) dX2_fewestOfRow_54 rfl ?_
        refine v_iincN (ls' := [(3, bI _), (2, bI _), (4, bI _), (0, bR _), (1, bI _)]) 4 rfl (by decide) g10 dX2_fewestOfRow_55 rfl ?_
        refine v_goto (tgt := 4) dX2_fewestOfRow_58 (by decide) ?_
        refine v_sub (ls2 := [(0, bR _), (1, bI _), (2, bI _), (3, bI _)]) [3, 4, 1, 0] rfl ?_
        exact h
noncomputable def F_X2_fewestOfRow_s4 (v1 : Int) (v2 : Int) (v3 : Int) (M : bM) : Option ((Int × Int) ⊕ (Int)) :=
  if (M 3 0) ≤ v3 then (some (.inr (v2))) else (b_bind (F_X2_isRoot v3 M) (fun x2 => if x2 = 0 then (F_X2_fewestOfRow_b33 v1 v2 v3 (-1) M) else (b_bind (F_X2_gapsOfRow v3 v1 M) (fun x11 => F_X2_fewestOfRow_b33 v1 v2 v3 x11 M))))
theorem t_X2_fewestOfRow_s4 {l : Launch} {E : bE} {Q : Int → Prop} {v1 : Int} {v2 : Int} {v3 : Int} {M : bM} (h : b_wp (F_X2_fewestOfRow_s4 v1 v2 v3 M) (Sum.elim (A_X2_fewestOfRow_4 l E Q v1 M) (X_X2_fewestOfRow_4 l E Q v1 M))) : V l E xX2_fewestOfRow (0, 0) 4 [(0, bR 7), (1, bI v1), (2, bI v2), (3, bI v3)] [] M (b_pIp M Q) := by
  unfold F_X2_fewestOfRow_s4 at h
  refine v_iload_n (f := 3) 3 rfl dX2_fewestOfRow_4 ?_
  refine v_aload_n (f := 0) 0 rfl dX2_fewestOfRow_5 ?_
  refine v_getR (kf := 1) (kz := 1) rfl kd_7 rfl ⟨by decide, by decide⟩ rfl wf_2_56 dX2_fewestOfRow_6 ?_
  refine v_getI (kf := 0) (kz := 0) rfl kd_3 rfl ⟨by decide, by decide⟩ rfl wf_2_160 dX2_fewestOfRow_9 ?_
  refine v_icmp_ge (tgt := 61) dX2_fewestOfRow_12 (by decide) (fun c1 => ?_) (fun c1 => ?_)
  · replace h := b_wp_t c1 h
    refine v_sub (ls2 := [(2, bI _)]) [2] rfl ?_
    exact h
  · replace h := b_wp_f c1 h
    refine v_aload_n (f := 0) 0 rfl dX2_fewestOfRow_15 ?_
    refine v_iload_n (f := 3) 3 rfl dX2_fewestOfRow_16 ?_
    refine v_cVIp (nA := 1) (As := [bI _]) (ix := 174) (cf_X2_isRoot (b_wp_b h)) rfl kd_7 rfl rfl wc_X2_isRoot wm_2_174 wi_X2_isRoot ws_X2_isRoot wn_2 ⟨by decide, by decide, by decide⟩ rfl ⟨by decide, by decide⟩ ⟨by decide, by decide⟩ (Nat.le_of_ble_eq_true rfl) dX2_fewestOfRow_17 (fun x2 h => ?_)
    refine v_if_eq (tgt := 32) dX2_fewestOfRow_20 (by decide) (fun c3 => ?_) (fun c3 => ?_)
    · replace h := b_wp_t c3 h
      refine v_iconst ⟨by decide, by decide⟩ dX2_fewestOfRow_32 ?_
      exact t_X2_fewestOfRow_b33 h
    · replace h := b_wp_f c3 h
      refine v_aload_n (f := 0) 0 rfl dX2_fewestOfRow_23 ?_
      refine v_iload_n (f := 3) 3 rfl dX2_fewestOfRow_24 ?_
      refine v_iload_n (f := 1) 1 rfl dX2_fewestOfRow_25 ?_
      refine v_cVIp (nA := 2) (As := [bI _, bI _]) (ix := 221) (cf_X2_gapsOfRow (b_wp_b h)) rfl kd_7 rfl rfl wc_X2_gapsOfRow wm_2_221 wi_X2_gapsOfRow ws_X2_gapsOfRow wn_2 ⟨by decide, by decide, by decide⟩ rfl ⟨by decide, by decide⟩ ⟨by decide, by decide⟩ (Nat.le_of_ble_eq_true rfl) dX2_fewestOfRow_26 (fun x11 h => ?_)
      refine v_goto (tgt := 33) dX2_fewestOfRow_29 (by decide) ?_
      exact t_X2_fewestOfRow_b33 h
theorem l_X2_fewestOfRow_4 {l : Launch} {E : bE} {Q : Int → Prop} {v1 : Int} {M : bM} {s : Int × Int} (h : b_wp (b_loop (fun t => F_X2_fewestOfRow_s4 v1 t.1 t.2 M) s) (X_X2_fewestOfRow_4 l E Q v1 M)) : A_X2_fewestOfRow_4 l E Q v1 M s := b_loop_wp (fun t h => t_X2_fewestOfRow_s4 h) s h
noncomputable def F_X2_fewestOfRow_b61 (v2 : Int) (M : bM) : Option (Int) :=
  some v2
theorem t_X2_fewestOfRow_b61 {l : Launch} {E : bE} {Q : Int → Prop} {v2 : Int} {M : bM} (h : b_wp (F_X2_fewestOfRow_b61 v2 M) (Q)) : V l E xX2_fewestOfRow (0, 0) 61 [(2, bI v2)] [] M (b_pIp M Q) := by
  unfold F_X2_fewestOfRow_b61 at h
  refine v_iload_n (f := 2) 0 rfl dX2_fewestOfRow_61 ?_
  refine v_ireturn rfl dX2_fewestOfRow_62 ⟨by decide, by decide⟩ ?_
  exact ⟨_, rfl, rfl, h⟩
noncomputable def F_X2_fewestOfRow (v1 : Int) (M : bM) : Option (Int) :=
  b_bind (b_loop (fun t => F_X2_fewestOfRow_s4 v1 t.1 t.2 M) ((-1), 0)) (fun t => F_X2_fewestOfRow_b61 t M)
theorem t_X2_fewestOfRow {l : Launch} {E : bE} {Q : Int → Prop} {v1 : Int} {M : bM} (h : b_wp (F_X2_fewestOfRow v1 M) (Q)) : V l E xX2_fewestOfRow (0, 0) 0 [(0, bR 7), (1, bI v1)] [] M (b_pIp M Q) := by
  unfold F_X2_fewestOfRow at h
  refine v_iconst ⟨by decide, by decide⟩ dX2_fewestOfRow_0 ?_
  refine v_istore_n (g := 2) (i := 2) (ls' := [(2, bI _), (0, bR _), (1, bI _)]) rfl (by decide) dX2_fewestOfRow_1 rfl ?_
  refine v_iconst ⟨by decide, by decide⟩ dX2_fewestOfRow_2 ?_
  refine v_istore_n (g := 3) (i := 3) (ls' := [(3, bI _), (2, bI _), (0, bR _), (1, bI _)]) rfl (by decide) dX2_fewestOfRow_3 rfl ?_
  refine v_sub (ls2 := [(0, bR _), (1, bI _), (2, bI _), (3, bI _)]) [2, 3, 1, 0] rfl ?_
  refine l_X2_fewestOfRow_4 (b_wp_m (fun t h => ?_) (b_wp_b h))
  show V l E xX2_fewestOfRow (0, 0) 61 [(2, bI _)] [] _ (b_pIp M Q)
  exact t_X2_fewestOfRow_b61 h
theorem cf_X2_fewestOfRow {l : Launch} {E : bE} {M : bM} {v1 : Int} {Q : Int → Prop} (h : b_wp (F_X2_fewestOfRow v1 M) Q) : b_C l E xX2_fewestOfRow yX2_fewestOfRow [bR 7, bI v1] M (b_pIp M Q) := b_met (by decide) ⟨rfl, rfl⟩ (Nat.le_of_ble_eq_true rfl) (fun _ _ => t_X2_fewestOfRow h)
abbrev xX2_judgeRow : bX := ("BurntHall$Chains", prog_4_method_23_code, 8, (Option.some Jvm.ClassFile.FieldType.int), b_rm 5 0 0, 0, "judgeRow")
abbrev yX2_judgeRow : MethodName := ⟨"BurntHall$Chains", "judgeRow", "(IILBurntHall$Tape;)I"⟩
theorem dX2_judgeRow_0 : decode prog_4_method_23_code 0 = .ok (.aload_n 0, 1) := by decide +kernel
theorem dX2_judgeRow_1 : decode prog_4_method_23_code 1 = .ok (.iload_n 1, 1) := by decide +kernel
theorem dX2_judgeRow_2 : decode prog_4_method_23_code 2 = .ok (.iload_n 2, 1) := by decide +kernel
theorem dX2_judgeRow_3 : decode prog_4_method_23_code 3 = .ok (.invokevirtual 70, 3) := by decide +kernel
theorem dX2_judgeRow_6 : decode prog_4_method_23_code 6 = .ok (.aload_n 3, 1) := by decide +kernel
theorem dX2_judgeRow_7 : decode prog_4_method_23_code 7 = .ok (.getfield 207, 3) := by decide +kernel
theorem dX2_judgeRow_10 : decode prog_4_method_23_code 10 = .ok (.istore 4, 2) := by decide +kernel
theorem dX2_judgeRow_12 : decode prog_4_method_23_code 12 = .ok (.iconst 0, 1) := by decide +kernel
theorem dX2_judgeRow_13 : decode prog_4_method_23_code 13 = .ok (.istore 5, 2) := by decide +kernel
theorem dX2_judgeRow_15 : decode prog_4_method_23_code 15 = .ok (.iload 5, 2) := by decide +kernel
theorem dX2_judgeRow_17 : decode prog_4_method_23_code 17 = .ok (.iload 4, 2) := by decide +kernel
theorem dX2_judgeRow_19 : decode prog_4_method_23_code 19 = .ok (.if_icmp .ge 78, 3) := by decide +kernel
theorem dX2_judgeRow_22 : decode prog_4_method_23_code 22 = .ok (.aload_n 0, 1) := by decide +kernel
theorem dX2_judgeRow_23 : decode prog_4_method_23_code 23 = .ok (.aload_n 3, 1) := by decide +kernel
theorem dX2_judgeRow_24 : decode prog_4_method_23_code 24 = .ok (.iload 5, 2) := by decide +kernel
theorem dX2_judgeRow_26 : decode prog_4_method_23_code 26 = .ok (.invokevirtual 212, 3) := by decide +kernel
theorem dX2_judgeRow_29 : decode prog_4_method_23_code 29 = .ok (.bipush 48, 2) := by decide +kernel
theorem dX2_judgeRow_31 : decode prog_4_method_23_code 31 = .ok (.isub, 1) := by decide +kernel
theorem dX2_judgeRow_32 : decode prog_4_method_23_code 32 = .ok (.invokevirtual 215, 3) := by decide +kernel
theorem dX2_judgeRow_35 : decode prog_4_method_23_code 35 = .ok (.istore 6, 2) := by decide +kernel
theorem dX2_judgeRow_37 : decode prog_4_method_23_code 37 = .ok (.iload 5, 2) := by decide +kernel
theorem dX2_judgeRow_39 : decode prog_4_method_23_code 39 = .ok (.bipush 8, 2) := by decide +kernel
theorem dX2_judgeRow_41 : decode prog_4_method_23_code 41 = .ok (.if_icmp .ge 9, 3) := by decide +kernel
theorem dX2_judgeRow_44 : decode prog_4_method_23_code 44 = .ok (.iload 6, 2) := by decide +kernel
theorem dX2_judgeRow_46 : decode prog_4_method_23_code 46 = .ok (.iconst (-1), 1) := by decide +kernel
theorem dX2_judgeRow_47 : decode prog_4_method_23_code 47 = .ok (.if_icmp .ne 5, 3) := by decide +kernel
theorem dX2_judgeRow_50 : decode prog_4_method_23_code 50 = .ok (.iconst (-1), 1) := by decide +kernel
theorem dX2_judgeRow_51 : decode prog_4_method_23_code 51 = .ok (.ireturn, 1) := by decide +kernel
theorem dX2_judgeRow_52 : decode prog_4_method_23_code 52 = .ok (.iconst 0, 1) := by decide +kernel
theorem dX2_judgeRow_53 : decode prog_4_method_23_code 53 = .ok (.istore 7, 2) := by decide +kernel
theorem dX2_judgeRow_55 : decode prog_4_method_23_code 55 = .ok (.iload 7, 2) := by decide +kernel
theorem dX2_judgeRow_57 : decode prog_4_method_23_code 57 = .ok (.iload 5, 2) := by decide +kernel
theorem dX2_judgeRow_59 : decode prog_4_method_23_code 59 = .ok (.if_icmp .ge 23, 3) := by decide +kernel
theorem dX2_judgeRow_62 : decode prog_4_method_23_code 62 = .ok (.aload_n 0, 1) := by decide +kernel
theorem dX2_judgeRow_63 : decode prog_4_method_23_code 63 = .ok (.getfield 43, 3) := by decide +kernel
theorem dX2_judgeRow_66 : decode prog_4_method_23_code 66 = .ok (.iload 7, 2) := by decide +kernel
theorem dX2_judgeRow_68 : decode prog_4_method_23_code 68 = .ok (.iaload, 1) := by decide +kernel
theorem dX2_judgeRow_69 : decode prog_4_method_23_code 69 = .ok (.iload 6, 2) := by decide +kernel
theorem dX2_judgeRow_71 : decode prog_4_method_23_code 71 = .ok (.if_icmp .ne 5, 3) := by decide +kernel
theorem dX2_judgeRow_74 : decode prog_4_method_23_code 74 = .ok (.iconst (-1), 1) := by decide +kernel
theorem dX2_judgeRow_75 : decode prog_4_method_23_code 75 = .ok (.ireturn, 1) := by decide +kernel
theorem dX2_judgeRow_76 : decode prog_4_method_23_code 76 = .ok (.iinc 7 1, 3) := by decide +kernel
theorem dX2_judgeRow_79 : decode prog_4_method_23_code 79 = .ok (.goto (-24), 3) := by decide +kernel
theorem dX2_judgeRow_82 : decode prog_4_method_23_code 82 = .ok (.aload_n 0, 1) := by decide +kernel
theorem dX2_judgeRow_83 : decode prog_4_method_23_code 83 = .ok (.getfield 43, 3) := by decide +kernel
theorem dX2_judgeRow_86 : decode prog_4_method_23_code 86 = .ok (.iload 5, 2) := by decide +kernel
theorem dX2_judgeRow_88 : decode prog_4_method_23_code 88 = .ok (.iload 6, 2) := by decide +kernel
theorem dX2_judgeRow_90 : decode prog_4_method_23_code 90 = .ok (.iastore, 1) := by decide +kernel
theorem dX2_judgeRow_91 : decode prog_4_method_23_code 91 = .ok (.iinc 5 1, 3) := by decide +kernel
theorem dX2_judgeRow_94 : decode prog_4_method_23_code 94 = .ok (.goto (-79), 3) := by decide +kernel
theorem dX2_judgeRow_97 : decode prog_4_method_23_code 97 = .ok (.iload 4, 2) := by decide +kernel
theorem dX2_judgeRow_99 : decode prog_4_method_23_code 99 = .ok (.ifCond .ne 17, 3) := by decide +kernel
theorem dX2_judgeRow_102 : decode prog_4_method_23_code 102 = .ok (.aload_n 0, 1) := by decide +kernel
theorem dX2_judgeRow_103 : decode prog_4_method_23_code 103 = .ok (.invokevirtual 74, 3) := by decide +kernel
theorem dX2_judgeRow_106 : decode prog_4_method_23_code 106 = .ok (.iconst (-1), 1) := by decide +kernel
theorem dX2_judgeRow_107 : decode prog_4_method_23_code 107 = .ok (.if_icmp .ne 7, 3) := by decide +kernel
theorem dX2_judgeRow_110 : decode prog_4_method_23_code 110 = .ok (.iconst (-1), 1) := by decide +kernel
theorem dX2_judgeRow_111 : decode prog_4_method_23_code 111 = .ok (.goto 4, 3) := by decide +kernel
theorem dX2_judgeRow_114 : decode prog_4_method_23_code 114 = .ok (.iconst 0, 1) := by decide +kernel
theorem dX2_judgeRow_115 : decode prog_4_method_23_code 115 = .ok (.ireturn, 1) := by decide +kernel
theorem dX2_judgeRow_116 : decode prog_4_method_23_code 116 = .ok (.aload_n 0, 1) := by decide +kernel
theorem dX2_judgeRow_117 : decode prog_4_method_23_code 117 = .ok (.aload_n 0, 1) := by decide +kernel
theorem dX2_judgeRow_118 : decode prog_4_method_23_code 118 = .ok (.getfield 43, 3) := by decide +kernel
theorem dX2_judgeRow_121 : decode prog_4_method_23_code 121 = .ok (.iload 4, 2) := by decide +kernel
theorem dX2_judgeRow_123 : decode prog_4_method_23_code 123 = .ok (.iconst 1, 1) := by decide +kernel
theorem dX2_judgeRow_124 : decode prog_4_method_23_code 124 = .ok (.isub, 1) := by decide +kernel
theorem dX2_judgeRow_125 : decode prog_4_method_23_code 125 = .ok (.iaload, 1) := by decide +kernel
theorem dX2_judgeRow_126 : decode prog_4_method_23_code 126 = .ok (.invokevirtual 177, 3) := by decide +kernel
theorem dX2_judgeRow_129 : decode prog_4_method_23_code 129 = .ok (.ifCond .eq 12, 3) := by decide +kernel
theorem dX2_judgeRow_132 : decode prog_4_method_23_code 132 = .ok (.aload_n 0, 1) := by decide +kernel
theorem dX2_judgeRow_133 : decode prog_4_method_23_code 133 = .ok (.iload 4, 2) := by decide +kernel
theorem dX2_judgeRow_135 : decode prog_4_method_23_code 135 = .ok (.invokevirtual 218, 3) := by decide +kernel
theorem dX2_judgeRow_138 : decode prog_4_method_23_code 138 = .ok (.goto 4, 3) := by decide +kernel
theorem dX2_judgeRow_141 : decode prog_4_method_23_code 141 = .ok (.iconst (-1), 1) := by decide +kernel
theorem dX2_judgeRow_142 : decode prog_4_method_23_code 142 = .ok (.ireturn, 1) := by decide +kernel
abbrev A_X2_judgeRow_1_15 (l : Launch) (E : bE) (Q : (Int × bM) → Prop) (v4 : Int) : (Int × bM) → Prop := (fun t : Int × bM => V l E xX2_judgeRow (0, 0) 15 [(0, bR 7), (3, bR 1), (4, bI v4), (5, bI (t.1))] [] t.2 (b_pI Q))
abbrev X_X2_judgeRow_1_15 (l : Launch) (E : bE) (Q : (Int × bM) → Prop) (v4 : Int) : ((bM) ⊕ (Int × bM)) → Prop := (Sum.elim (fun t : bM => V l E xX2_judgeRow (0, 0) 97 [(0, bR 7), (4, bI v4)] [] t (b_pI Q)) Q)
abbrev A_X2_judgeRow_1_55 (l : Launch) (E : bE) (Q : (Int × bM) → Prop) (v4 : Int) (v5 : Int) (v6 : Int) (M : bM) : (Int) → Prop := (fun t : Int => V l E xX2_judgeRow (0, 0) 55 [(0, bR 7), (3, bR 1), (4, bI v4), (5, bI v5), (6, bI v6), (7, bI t)] [] M (b_pI Q))
abbrev X_X2_judgeRow_1_55 (l : Launch) (E : bE) (Q : (Int × bM) → Prop) (v4 : Int) (v5 : Int) (v6 : Int) (M : bM) : ((Unit) ⊕ ((Int × bM) ⊕ ((bM) ⊕ (Int × bM)))) → Prop := (Sum.elim (fun t : Unit => V l E xX2_judgeRow (0, 0) 82 [(0, bR 7), (3, bR 1), (4, bI v4), (5, bI v5), (6, bI v6)] [] M (b_pI Q)) (Sum.elim (A_X2_judgeRow_1_15 l E Q v4) (X_X2_judgeRow_1_15 l E Q v4)))
noncomputable def F_X2_judgeRow_1_s55 (v4 : Int) (v5 : Int) (v6 : Int) (v7 : Int) (M : bM) : Option ((Int) ⊕ ((Unit) ⊕ ((Int × bM) ⊕ ((bM) ⊕ (Int × bM))))) :=
  if v5 ≤ v7 then (some (.inr (.inl ()))) else (b_g (0 ≤ v7 ∧ v7 < 8) (if (M 139 v7) = v6 then (some (.inr (.inr (.inr (.inr ((-1), M)))))) else (b_g (b_i32 (v7 + 1)) (some (.inl ((v7 + 1)))))))
theorem t_X2_judgeRow_1_s55 {l : Launch} {E : bE} {Q : (Int × bM) → Prop} {v4 : Int} {v5 : Int} {v6 : Int} {v7 : Int} {M : bM} (h : b_wp (F_X2_judgeRow_1_s55 v4 v5 v6 v7 M) (Sum.elim (A_X2_judgeRow_1_55 l E Q v4 v5 v6 M) (X_X2_judgeRow_1_55 l E Q v4 v5 v6 M))) : V l E xX2_judgeRow (0, 0) 55 [(0, bR 7), (3, bR 1), (4, bI v4), (5, bI v5), (6, bI v6), (7, bI v7)] [] M (b_pI Q) := by
  unfold F_X2_judgeRow_1_s55 at h
  refine v_iload (i := 7) 5 rfl dX2_judgeRow_55 ?_
  refine v_iload (i := 5) 3 rfl dX2_judgeRow_57 ?_
  refine v_icmp_ge (tgt := 82) dX2_judgeRow_59 (by decide) (fun c8 => ?_) (fun c8 => ?_)
  · replace h := b_wp_t c8 h
    refine v_sub (ls2 := [(0, bR _), (3, bR _), (4, bI _), (5, bI _), (6, bI _)]) [0, 1, 2, 3, 4] rfl ?_
    exact h
  · replace h := b_wp_f c8 h
    obtain ⟨g9, h⟩ := b_wp_g h
    refine v_aload_n (f := 0) 0 rfl dX2_judgeRow_62 ?_
    refine v_getR (kf := 17) (kz := 17) rfl kd_7 rfl ⟨by decide, by decide⟩ rfl wf_2_43 dX2_judgeRow_63 ?_
    refine v_iload (i := 7) 5 rfl dX2_judgeRow_66 ?_
    refine v_iaload kd_139 g9 (by decide) dX2_judgeRow_68 ?_
    refine v_iload (i := 6) 4 rfl dX2_judgeRow_69 ?_
    refine v_icmp_ne (tgt := 76) dX2_judgeRow_71 (by decide) (fun c10 => ?_) (fun c10 => ?_)
    · replace h := b_wp_f c10 h
      obtain ⟨g11, h⟩ := b_wp_g h
      refine v_iincN (ls' := [(7, bI _), (0, bR _), (3, bR _), (4, bI _), (5, bI _), (6, bI _)]) 5 rfl (by decide) g11 dX2_judgeRow_76 rfl ?_
      refine v_goto (tgt := 55) dX2_judgeRow_79 (by decide) ?_
      refine v_sub (ls2 := [(0, bR _), (3, bR _), (4, bI _), (5, bI _), (6, bI _), (7, bI _)]) [1, 2, 3, 4, 5, 0] rfl ?_
      exact h
    · replace h := b_wp_t c10 h
      refine v_iconst ⟨by decide, by decide⟩ dX2_judgeRow_74 ?_
      refine v_ireturn rfl dX2_judgeRow_75 ⟨by decide, by decide⟩ ?_
      exact ⟨_, rfl, h⟩
theorem l_X2_judgeRow_1_55 {l : Launch} {E : bE} {Q : (Int × bM) → Prop} {v4 : Int} {v5 : Int} {v6 : Int} {M : bM} {s : Int} (h : b_wp (b_loop (fun t => F_X2_judgeRow_1_s55 v4 v5 v6 t M) s) (X_X2_judgeRow_1_55 l E Q v4 v5 v6 M)) : A_X2_judgeRow_1_55 l E Q v4 v5 v6 M s := b_loop_wp (fun t h => t_X2_judgeRow_1_s55 h) s h
noncomputable def F_X2_judgeRow_1_b82 (v4 : Int) (v5 : Int) (v6 : Int) (M : bM) : Option ((Int × bM) ⊕ ((bM) ⊕ (Int × bM))) :=
  b_g (0 ≤ v5 ∧ v5 < 8) (b_let (b_up M 139 v5 v6) (fun M13 => b_g (b_i32 (v5 + 1)) (some (.inl ((v5 + 1), M13)))))
theorem t_X2_judgeRow_1_b82 {l : Launch} {E : bE} {Q : (Int × bM) → Prop} {v4 : Int} {v5 : Int} {v6 : Int} {M : bM} (h : b_wp (F_X2_judgeRow_1_b82 v4 v5 v6 M) (Sum.elim (A_X2_judgeRow_1_15 l E Q v4) (X_X2_judgeRow_1_15 l E Q v4))) : V l E xX2_judgeRow (0, 0) 82 [(0, bR 7), (3, bR 1), (4, bI v4), (5, bI v5), (6, bI v6)] [] M (b_pI Q) := by
  unfold F_X2_judgeRow_1_b82 at h
  obtain ⟨g12, h⟩ := b_wp_g h
  refine v_aload_n (f := 0) 0 rfl dX2_judgeRow_82 ?_
  refine v_getR (kf := 17) (kz := 17) rfl kd_7 rfl ⟨by decide, by decide⟩ rfl wf_2_43 dX2_judgeRow_83 ?_
  refine v_iload (i := 5) 3 rfl dX2_judgeRow_86 ?_
  refine v_iload (i := 6) 4 rfl dX2_judgeRow_88 ?_
  refine v_iastore kd_139 g12 (by decide) dX2_judgeRow_90 ?_
  replace h := b_wp_l h
  obtain ⟨g14, h⟩ := b_wp_g h
  refine v_iincN (ls' := [(5, bI _), (0, bR _), (3, bR _), (4, bI _), (6, bI _)]) 3 rfl (by decide) g14 dX2_judgeRow_91 rfl ?_
  refine v_goto (tgt := 15) dX2_judgeRow_94 (by decide) ?_
  refine v_sub (ls2 := [(0, bR _), (3, bR _), (4, bI _), (5, bI _)]) [1, 2, 3, 0] rfl ?_
  exact h
noncomputable def F_X2_judgeRow_1_s15 (v4 : Int) (v5 : Int) (M : bM) : Option ((Int × bM) ⊕ ((bM) ⊕ (Int × bM))) :=
  if v4 ≤ v5 then (some (.inr (.inl (M)))) else (b_bind (F_X10_byteAt v5 M) (fun x3 => b_g (b_i32 (x3 - 48)) (b_bind (F_X2_linkOf (x3 - 48) M) (fun x5 => if 8 ≤ v5 then (some (.inr (.inr ((-1), M)))) else (if x5 = (-1) then (some (.inr (.inr ((-1), M)))) else (b_bind (b_loop (fun t => F_X2_judgeRow_1_s55 v4 v5 x5 t M) (0)) (Sum.elim (fun t => F_X2_judgeRow_1_b82 v4 v5 x5 M) some)))))))
theorem t_X2_judgeRow_1_s15 {l : Launch} {E : bE} {Q : (Int × bM) → Prop} {v4 : Int} {v5 : Int} {M : bM} (h : b_wp (F_X2_judgeRow_1_s15 v4 v5 M) (Sum.elim (A_X2_judgeRow_1_15 l E Q v4) (X_X2_judgeRow_1_15 l E Q v4))) : V l E xX2_judgeRow (0, 0) 15 [(0, bR 7), (3, bR 1), (4, bI v4), (5, bI v5)] [] M (b_pI Q) := by
  unfold F_X2_judgeRow_1_s15 at h
  refine v_iload (i := 5) 3 rfl dX2_judgeRow_15 ?_
  refine v_iload (i := 4) 2 rfl dX2_judgeRow_17 ?_
  refine v_icmp_ge (tgt := 97) dX2_judgeRow_19 (by decide) (fun c2 => ?_) (fun c2 => ?_)
  · replace h := b_wp_t c2 h
    refine v_sub (ls2 := [(0, bR _), (4, bI _)]) [0, 2] rfl ?_
    exact h
  · replace h := b_wp_f c2 h
    refine v_aload_n (f := 0) 0 rfl dX2_judgeRow_22 ?_
    refine v_aload_n (f := 3) 1 rfl dX2_judgeRow_23 ?_
    refine v_iload (i := 5) 3 rfl dX2_judgeRow_24 ?_
    refine v_cVIp (nA := 1) (As := [bI _]) (ix := 212) (cf_X10_byteAt (b_wp_b h)) rfl kd_1 rfl rfl wc_X10_byteAt wm_2_212 wi_X10_byteAt ws_X10_byteAt wn_10 ⟨by decide, by decide, by decide⟩ rfl ⟨by decide, by decide⟩ ⟨by decide, by decide⟩ (Nat.le_of_ble_eq_true rfl) dX2_judgeRow_26 (fun x3 h => ?_)
    obtain ⟨g4, h⟩ := b_wp_g h
    refine v_bipush ⟨by decide, by decide⟩ (by decide) dX2_judgeRow_29 ?_
    refine v_isubN g4 dX2_judgeRow_31 ?_
    refine v_cVIp (nA := 1) (As := [bI _]) (ix := 215) (cf_X2_linkOf (b_wp_b h)) rfl kd_7 rfl rfl wc_X2_linkOf wm_2_215 wi_X2_linkOf ws_X2_linkOf wn_2 ⟨by decide, by decide, by decide⟩ rfl ⟨by decide, by decide⟩ ⟨by decide, by decide⟩ (Nat.le_of_ble_eq_true rfl) dX2_judgeRow_32 (fun x5 h => ?_)
    refine v_istore (i := 6) (ls' := [(6, bI _), (0, bR _), (3, bR _), (4, bI _), (5, bI _)]) (by decide) dX2_judgeRow_35 rfl ?_
    refine v_iload (i := 5) 4 rfl dX2_judgeRow_37 ?_
    refine v_bipush ⟨by decide, by decide⟩ (by decide) dX2_judgeRow_39 ?_
    refine v_icmp_ge (tgt := 50) dX2_judgeRow_41 (by decide) (fun c6 => ?_) (fun c6 => ?_)
    · replace h := b_wp_t c6 h
      refine v_iconst ⟨by decide, by decide⟩ dX2_judgeRow_50 ?_
      refine v_ireturn rfl dX2_judgeRow_51 ⟨by decide, by decide⟩ ?_
      exact ⟨_, rfl, h⟩
    · replace h := b_wp_f c6 h
      refine v_iload (i := 6) 0 rfl dX2_judgeRow_44 ?_
      refine v_iconst ⟨by decide, by decide⟩ dX2_judgeRow_46 ?_
      refine v_icmp_ne (tgt := 52) dX2_judgeRow_47 (by decide) (fun c7 => ?_) (fun c7 => ?_)
      · replace h := b_wp_f c7 h
        refine v_iconst ⟨by decide, by decide⟩ dX2_judgeRow_52 ?_
        refine v_istore (i := 7) (ls' := [(7, bI _), (6, bI _), (0, bR _), (3, bR _), (4, bI _), (5, bI _)]) (by decide) dX2_judgeRow_53 rfl ?_
        refine v_sub (ls2 := [(0, bR _), (3, bR _), (4, bI _), (5, bI _), (6, bI _), (7, bI _)]) [2, 3, 4, 5, 1, 0] rfl ?_
        refine l_X2_judgeRow_1_55 (b_wp_m (fun t h => ?_) (b_wp_b h))
        cases t with
        | inr o => exact h
        | inl t =>
          show V l E xX2_judgeRow (0, 0) 82 [(0, bR 7), (3, bR 1), (4, bI _), (5, bI _), (6, bI _)] [] _ (b_pI Q)
          replace h := b_wp_inl h
          exact t_X2_judgeRow_1_b82 h
      · replace h := b_wp_t c7 h
        refine v_iconst ⟨by decide, by decide⟩ dX2_judgeRow_50 ?_
        refine v_ireturn rfl dX2_judgeRow_51 ⟨by decide, by decide⟩ ?_
        exact ⟨_, rfl, h⟩
theorem l_X2_judgeRow_1_15 {l : Launch} {E : bE} {Q : (Int × bM) → Prop} {v4 : Int} {s : Int × bM} (h : b_wp (b_loop (fun t => F_X2_judgeRow_1_s15 v4 t.1 t.2) s) (X_X2_judgeRow_1_15 l E Q v4)) : A_X2_judgeRow_1_15 l E Q v4 s := b_loop_wp (fun t h => t_X2_judgeRow_1_s15 h) s h
noncomputable def F_X2_judgeRow_1_b97 (v4 : Int) (M : bM) : Option (Int × bM) :=
  if v4 = 0 then (b_bind (F_X2_lotOfBareChain M) (fun x21 => if x21 = (-1) then (some ((-1), M)) else (some (0, M)))) else (b_g ((b_i32 (v4 - 1)) ∧ (0 ≤ (v4 - 1) ∧ (v4 - 1) < 8)) (b_bind (F_X2_isEnder (M 139 (v4 - 1)) M) (fun x18 => if x18 = 0 then (some ((-1), M)) else (b_bind (F_X2_fewestOfRow v4 M) (fun x20 => some (x20, M))))))
theorem t_X2_judgeRow_1_b97 {l : Launch} {E : bE} {Q : (Int × bM) → Prop} {v4 : Int} {M : bM} (h : b_wp (F_X2_judgeRow_1_b97 v4 M) (Q)) : V l E xX2_judgeRow (0, 0) 97 [(0, bR 7), (4, bI v4)] [] M (b_pI Q) := by
  unfold F_X2_judgeRow_1_b97 at h
  refine v_iload (i := 4) 1 rfl dX2_judgeRow_97 ?_
  refine v_if_ne (tgt := 116) dX2_judgeRow_99 (by decide) (fun c15 => ?_) (fun c15 => ?_)
  · replace h := b_wp_f c15 h
    obtain ⟨⟨g16, g17⟩, h⟩ := b_wp_g h
    refine v_aload_n (f := 0) 0 rfl dX2_judgeRow_116 ?_
    refine v_aload_n (f := 0) 0 rfl dX2_judgeRow_117 ?_
    refine v_getR (kf := 17) (kz := 17) rfl kd_7 rfl ⟨by decide, by decide⟩ rfl wf_2_43 dX2_judgeRow_118 ?_
    refine v_iload (i := 4) 1 rfl dX2_judgeRow_121 ?_
    refine v_iconst ⟨by decide, by decide⟩ dX2_judgeRow_123 ?_
    refine v_isubN g16 dX2_judgeRow_124 ?_
    refine v_iaload kd_139 g17 (by decide) dX2_judgeRow_125 ?_
    refine v_cVIp (nA := 1) (As := [bI _]) (ix := 177) (cf_X2_isEnder (b_wp_b h)) rfl kd_7 rfl rfl wc_X2_isEnder wm_2_177 wi_X2_isEnder ws_X2_isEnder wn_2 ⟨by decide, by decide, by decide⟩ rfl ⟨by decide, by decide⟩ ⟨by decide, by decide⟩ (Nat.le_of_ble_eq_true rfl) dX2_judgeRow_126 (fun x18 h => ?_)
    refine v_if_eq (tgt := 141) dX2_judgeRow_129 (by decide) (fun c19 => ?_) (fun c19 => ?_)
    · replace h := b_wp_t c19 h
      refine v_iconst ⟨by decide, by decide⟩ dX2_judgeRow_141 ?_
      refine v_ireturn rfl dX2_judgeRow_142 ⟨by decide, by decide⟩ ?_
      exact ⟨_, rfl, h⟩
    · replace h := b_wp_f c19 h
      refine v_aload_n (f := 0) 0 rfl dX2_judgeRow_132 ?_
      refine v_iload (i := 4) 1 rfl dX2_judgeRow_133 ?_
      refine v_cVIp (nA := 1) (As := [bI _]) (ix := 218) (cf_X2_fewestOfRow (b_wp_b h)) rfl kd_7 rfl rfl wc_X2_fewestOfRow wm_2_218 wi_X2_fewestOfRow ws_X2_fewestOfRow wn_2 ⟨by decide, by decide, by decide⟩ rfl ⟨by decide, by decide⟩ ⟨by decide, by decide⟩ (Nat.le_of_ble_eq_true rfl) dX2_judgeRow_135 (fun x20 h => ?_)
      refine v_goto (tgt := 142) dX2_judgeRow_138 (by decide) ?_
      refine v_ireturn rfl dX2_judgeRow_142 ⟨by decide, by decide⟩ ?_
      exact ⟨_, rfl, h⟩
  · replace h := b_wp_t c15 h
    refine v_aload_n (f := 0) 0 rfl dX2_judgeRow_102 ?_
    refine v_cVIp (nA := 0) (As := []) (ix := 74) (cf_X2_lotOfBareChain (b_wp_b h)) rfl kd_7 rfl rfl wc_X2_lotOfBareChain wm_2_74 wi_X2_lotOfBareChain ws_X2_lotOfBareChain wn_2 ⟨by decide, by decide, by decide⟩ rfl ⟨by decide, by decide⟩ ⟨by decide, by decide⟩ (Nat.le_of_ble_eq_true rfl) dX2_judgeRow_103 (fun x21 h => ?_)
    refine v_iconst ⟨by decide, by decide⟩ dX2_judgeRow_106 ?_
    refine v_icmp_ne (tgt := 114) dX2_judgeRow_107 (by decide) (fun c22 => ?_) (fun c22 => ?_)
    · replace h := b_wp_f c22 h
      refine v_iconst ⟨by decide, by decide⟩ dX2_judgeRow_114 ?_
      refine v_ireturn rfl dX2_judgeRow_115 ⟨by decide, by decide⟩ ?_
      exact ⟨_, rfl, h⟩
    · replace h := b_wp_t c22 h
      refine v_iconst ⟨by decide, by decide⟩ dX2_judgeRow_110 ?_
      refine v_goto (tgt := 115) dX2_judgeRow_111 (by decide) ?_
      refine v_ireturn rfl dX2_judgeRow_115 ⟨by decide, by decide⟩ ?_
      exact ⟨_, rfl, h⟩
noncomputable def F_X2_judgeRow_1 (v1 : Int) (v2 : Int) (M : bM) : Option (Int × bM) :=
  b_bind (F_X2_gather v1 v2 M) (fun M1 => b_bind (b_loop (fun t => F_X2_judgeRow_1_s15 (M1 1 1) t.1 t.2) (0, M1)) (Sum.elim (fun t => F_X2_judgeRow_1_b97 (M1 1 1) t) some))
theorem t_X2_judgeRow_1 {l : Launch} {E : bE} {Q : (Int × bM) → Prop} {v1 : Int} {v2 : Int} {M : bM} (h : b_wp (F_X2_judgeRow_1 v1 v2 M) (Q)) : V l E xX2_judgeRow (0, 0) 0 [(0, bR 7), (1, bI v1), (2, bI v2), (3, bR 1)] [] M (b_pI Q) := by
  unfold F_X2_judgeRow_1 at h
  refine v_aload_n (f := 0) 0 rfl dX2_judgeRow_0 ?_
  refine v_iload_n (f := 1) 1 rfl dX2_judgeRow_1 ?_
  refine v_iload_n (f := 2) 2 rfl dX2_judgeRow_2 ?_
  refine v_cVV (nA := 2) (As := [bI _, bI _]) (ix := 70) (cf_X2_gather (b_wp_b h)) rfl kd_7 rfl rfl wc_X2_gather wm_2_70 wi_X2_gather ws_X2_gather wn_2 ⟨by decide, by decide, by decide⟩ rfl ⟨by decide, by decide⟩ ⟨by decide, by decide⟩ (Nat.le_of_ble_eq_true rfl) dX2_judgeRow_3 (fun M1 h => ?_)
  refine v_aload_n (f := 3) 3 rfl dX2_judgeRow_6 ?_
  refine v_getI (kf := 1) (kz := 1) rfl kd_1 rfl ⟨by decide, by decide⟩ rfl wf_2_207 dX2_judgeRow_7 ?_
  refine v_istore (i := 4) (ls' := [(4, bI _), (0, bR _), (1, bI _), (2, bI _), (3, bR _)]) (by decide) dX2_judgeRow_10 rfl ?_
  refine v_iconst ⟨by decide, by decide⟩ dX2_judgeRow_12 ?_
  refine v_istore (i := 5) (ls' := [(5, bI _), (4, bI _), (0, bR _), (1, bI _), (2, bI _), (3, bR _)]) (by decide) dX2_judgeRow_13 rfl ?_
  refine v_sub (ls2 := [(0, bR _), (3, bR _), (4, bI _), (5, bI _)]) [2, 5, 1, 0] rfl ?_
  refine l_X2_judgeRow_1_15 (b_wp_m (fun t h => ?_) (b_wp_b h))
  cases t with
  | inr o => exact h
  | inl t =>
    show V l E xX2_judgeRow (0, 0) 97 [(0, bR 7), (4, bI _)] [] _ (b_pI Q)
    replace h := b_wp_inl h
    exact t_X2_judgeRow_1_b97 h
theorem cf_X2_judgeRow_1 {l : Launch} {E : bE} {M : bM} {v1 : Int} {v2 : Int} {Q : (Int × bM) → Prop} (h : b_wp (F_X2_judgeRow_1 v1 v2 M) Q) : b_C l E xX2_judgeRow yX2_judgeRow [bR 7, bI v1, bI v2, bR 1] M (b_pI Q) := b_met (by decide) ⟨rfl, rfl⟩ (Nat.le_of_ble_eq_true rfl) (fun _ _ => t_X2_judgeRow_1 h)
abbrev xX11_judge : bX := ("BurntHall", prog_1_method_38_code, 5, (Option.some Jvm.ClassFile.FieldType.int), b_rm 7 0 0, 0, "judge")
abbrev yX11_judge : MethodName := ⟨"BurntHall", "judge", "(III)I"⟩
theorem dX11_judge_0 : decode prog_1_method_38_code 0 = .ok (.bipush (-2), 2) := by decide +kernel
theorem dX11_judge_2 : decode prog_1_method_38_code 2 = .ok (.istore 4, 2) := by decide +kernel
theorem dX11_judge_4 : decode prog_1_method_38_code 4 = .ok (.aload_n 0, 1) := by decide +kernel
theorem dX11_judge_5 : decode prog_1_method_38_code 5 = .ok (.getfield 26, 3) := by decide +kernel
theorem dX11_judge_8 : decode prog_1_method_38_code 8 = .ok (.iload_n 1, 1) := by decide +kernel
theorem dX11_judge_9 : decode prog_1_method_38_code 9 = .ok (.invokevirtual 146, 3) := by decide +kernel
theorem dX11_judge_12 : decode prog_1_method_38_code 12 = .ok (.ifCond .eq 44, 3) := by decide +kernel
theorem dX11_judge_15 : decode prog_1_method_38_code 15 = .ok (.aload_n 0, 1) := by decide +kernel
theorem dX11_judge_16 : decode prog_1_method_38_code 16 = .ok (.getfield 19, 3) := by decide +kernel
theorem dX11_judge_19 : decode prog_1_method_38_code 19 = .ok (.iload_n 2, 1) := by decide +kernel
theorem dX11_judge_20 : decode prog_1_method_38_code 20 = .ok (.invokevirtual 110, 3) := by decide +kernel
theorem dX11_judge_23 : decode prog_1_method_38_code 23 = .ok (.ifCond .eq 33, 3) := by decide +kernel
theorem dX11_judge_26 : decode prog_1_method_38_code 26 = .ok (.iload_n 3, 1) := by decide +kernel
theorem dX11_judge_27 : decode prog_1_method_38_code 27 = .ok (.invokestatic 102, 3) := by decide +kernel
theorem dX11_judge_30 : decode prog_1_method_38_code 30 = .ok (.ifCond .eq 26, 3) := by decide +kernel
theorem dX11_judge_33 : decode prog_1_method_38_code 33 = .ok (.aload_n 0, 1) := by decide +kernel
theorem dX11_judge_34 : decode prog_1_method_38_code 34 = .ok (.getfield 51, 3) := by decide +kernel
theorem dX11_judge_37 : decode prog_1_method_38_code 37 = .ok (.iload_n 3, 1) := by decide +kernel
theorem dX11_judge_38 : decode prog_1_method_38_code 38 = .ok (.invokevirtual 284, 3) := by decide +kernel
theorem dX11_judge_41 : decode prog_1_method_38_code 41 = .ok (.aload_n 0, 1) := by decide +kernel
theorem dX11_judge_42 : decode prog_1_method_38_code 42 = .ok (.getfield 60, 3) := by decide +kernel
theorem dX11_judge_45 : decode prog_1_method_38_code 45 = .ok (.iload_n 1, 1) := by decide +kernel
theorem dX11_judge_46 : decode prog_1_method_38_code 46 = .ok (.iload_n 2, 1) := by decide +kernel
theorem dX11_judge_47 : decode prog_1_method_38_code 47 = .ok (.aload_n 0, 1) := by decide +kernel
theorem dX11_judge_48 : decode prog_1_method_38_code 48 = .ok (.getfield 10, 3) := by decide +kernel
theorem dX11_judge_51 : decode prog_1_method_38_code 51 = .ok (.invokevirtual 303, 3) := by decide +kernel
theorem dX11_judge_54 : decode prog_1_method_38_code 54 = .ok (.istore 4, 2) := by decide +kernel
theorem dX11_judge_56 : decode prog_1_method_38_code 56 = .ok (.aload_n 0, 1) := by decide +kernel
theorem dX11_judge_57 : decode prog_1_method_38_code 57 = .ok (.getfield 10, 3) := by decide +kernel
theorem dX11_judge_60 : decode prog_1_method_38_code 60 = .ok (.invokevirtual 182, 3) := by decide +kernel
theorem dX11_judge_63 : decode prog_1_method_38_code 63 = .ok (.iload 4, 2) := by decide +kernel
theorem dX11_judge_65 : decode prog_1_method_38_code 65 = .ok (.ireturn, 1) := by decide +kernel
noncomputable def F_X11_judge_b56 (v4 : Int) (M : bM) : Option (Int × bM) :=
  b_bind (F_X10_clear M) (fun M3 => some (v4, M3))
theorem t_X11_judge_b56 {l : Launch} {E : bE} {Q : (Int × bM) → Prop} {v4 : Int} {M : bM} (h : b_wp (F_X11_judge_b56 v4 M) (Q)) : V l E xX11_judge (0, 0) 56 [(0, bR 0), (4, bI v4)] [] M (b_pI Q) := by
  unfold F_X11_judge_b56 at h
  refine v_aload_n (f := 0) 0 rfl dX11_judge_56 ?_
  refine v_getR (kf := 0) (kz := 0) rfl kd_0 rfl ⟨by decide, by decide⟩ rfl wf_11_10 dX11_judge_57 ?_
  refine v_cVV (nA := 0) (As := []) (ix := 182) (cf_X10_clear (b_wp_b h)) rfl kd_1 rfl rfl wc_X10_clear wm_11_182 wi_X10_clear ws_X10_clear wn_10 ⟨by decide, by decide, by decide⟩ rfl ⟨by decide, by decide⟩ ⟨by decide, by decide⟩ (Nat.le_of_ble_eq_true rfl) dX11_judge_60 (fun M3 h => ?_)
  refine v_iload (i := 4) 1 rfl dX11_judge_63 ?_
  refine v_ireturn rfl dX11_judge_65 ⟨by decide, by decide⟩ ?_
  exact ⟨_, rfl, h⟩
noncomputable def F_X11_judge (v1 : Int) (v2 : Int) (v3 : Int) (M : bM) : Option (Int × bM) :=
  b_bind (F_X5_has v1 M) (fun x1 => if x1 = 0 then (F_X11_judge_b56 (-2) M) else (b_bind (F_X8_has v2 M) (fun x4 => if x4 = 0 then (F_X11_judge_b56 (-2) M) else (b_bind (F_X11_isDay v3 M) (fun x6 => if x6 = 0 then (F_X11_judge_b56 (-2) M) else (b_bind (F_X4_know v3 M) (fun M8 => b_bind (F_X2_judgeRow_1 v1 v2 M8) (fun t => b_two t (fun x9 M10 => F_X11_judge_b56 x9 M10)))))))))
theorem t_X11_judge {l : Launch} {E : bE} {Q : (Int × bM) → Prop} {v1 : Int} {v2 : Int} {v3 : Int} {M : bM} (h : b_wp (F_X11_judge v1 v2 v3 M) (Q)) : V l E xX11_judge (0, 0) 0 [(0, bR 0), (1, bI v1), (2, bI v2), (3, bI v3)] [] M (b_pI Q) := by
  unfold F_X11_judge at h
  refine v_bipush ⟨by decide, by decide⟩ (by decide) dX11_judge_0 ?_
  refine v_istore (i := 4) (ls' := [(4, bI _), (0, bR _), (1, bI _), (2, bI _), (3, bI _)]) (by decide) dX11_judge_2 rfl ?_
  refine v_aload_n (f := 0) 1 rfl dX11_judge_4 ?_
  refine v_getR (kf := 2) (kz := 2) rfl kd_0 rfl ⟨by decide, by decide⟩ rfl wf_11_26 dX11_judge_5 ?_
  refine v_iload_n (f := 1) 2 rfl dX11_judge_8 ?_
  refine v_cVIp (nA := 1) (As := [bI _]) (ix := 146) (cf_X5_has (b_wp_b h)) rfl kd_3 rfl rfl wc_X5_has wm_11_146 wi_X5_has ws_X5_has wn_5 ⟨by decide, by decide, by decide⟩ rfl ⟨by decide, by decide⟩ ⟨by decide, by decide⟩ (Nat.le_of_ble_eq_true rfl) dX11_judge_9 (fun x1 h => ?_)
  refine v_if_eq (tgt := 56) dX11_judge_12 (by decide) (fun c2 => ?_) (fun c2 => ?_)
  · replace h := b_wp_t c2 h
    refine v_sub (ls2 := [(0, bR _), (4, bI _)]) [1, 0] rfl ?_
    exact t_X11_judge_b56 h
  · replace h := b_wp_f c2 h
    refine v_aload_n (f := 0) 1 rfl dX11_judge_15 ?_
    refine v_getR (kf := 1) (kz := 1) rfl kd_0 rfl ⟨by decide, by decide⟩ rfl wf_11_19 dX11_judge_16 ?_
    refine v_iload_n (f := 2) 3 rfl dX11_judge_19 ?_
    refine v_cVIp (nA := 1) (As := [bI _]) (ix := 110) (cf_X8_has (b_wp_b h)) rfl kd_2 rfl rfl wc_X8_has wm_11_110 wi_X8_has ws_X8_has wn_8 ⟨by decide, by decide, by decide⟩ rfl ⟨by decide, by decide⟩ ⟨by decide, by decide⟩ (Nat.le_of_ble_eq_true rfl) dX11_judge_20 (fun x4 h => ?_)
    refine v_if_eq (tgt := 56) dX11_judge_23 (by decide) (fun c5 => ?_) (fun c5 => ?_)
    · replace h := b_wp_t c5 h
      refine v_sub (ls2 := [(0, bR _), (4, bI _)]) [1, 0] rfl ?_
      exact t_X11_judge_b56 h
    · replace h := b_wp_f c5 h
      refine v_iload_n (f := 3) 4 rfl dX11_judge_26 ?_
      refine v_cSIp (nA := 1) (As := [bI _]) (ix := 102) (cf_X11_isDay (b_wp_b h)) rfl wc_X11_isDay wm_11_102 wi_X11_isDay wn_11 ⟨by decide, by decide, by decide⟩ rfl ⟨by decide, by decide⟩ ⟨by decide, by decide⟩ (Nat.le_of_ble_eq_true rfl) dX11_judge_27 (fun x6 h => ?_)
      refine v_if_eq (tgt := 56) dX11_judge_30 (by decide) (fun c7 => ?_) (fun c7 => ?_)
      · replace h := b_wp_t c7 h
        refine v_sub (ls2 := [(0, bR _), (4, bI _)]) [1, 0] rfl ?_
        exact t_X11_judge_b56 h
      · replace h := b_wp_f c7 h
        refine v_aload_n (f := 0) 1 rfl dX11_judge_33 ?_
        refine v_getR (kf := 5) (kz := 5) rfl kd_0 rfl ⟨by decide, by decide⟩ rfl wf_11_51 dX11_judge_34 ?_
        refine v_iload_n (f := 3) 4 rfl dX11_judge_37 ?_
        refine v_cVV (nA := 1) (As := [bI _]) (ix := 284) (cf_X4_know (b_wp_b h)) rfl kd_6 rfl rfl wc_X4_know wm_11_284 wi_X4_know ws_X4_know wn_4 ⟨by decide, by decide, by decide⟩ rfl ⟨by decide, by decide⟩ ⟨by decide, by decide⟩ (Nat.le_of_ble_eq_true rfl) dX11_judge_38 (fun M8 h => ?_)
        refine v_aload_n (f := 0) 1 rfl dX11_judge_41 ?_
        refine v_getR (kf := 6) (kz := 6) rfl kd_0 rfl ⟨by decide, by decide⟩ rfl wf_11_60 dX11_judge_42 ?_
        refine v_iload_n (f := 1) 2 rfl dX11_judge_45 ?_
        refine v_iload_n (f := 2) 3 rfl dX11_judge_46 ?_
        refine v_aload_n (f := 0) 1 rfl dX11_judge_47 ?_
        refine v_getR (kf := 0) (kz := 0) rfl kd_0 rfl ⟨by decide, by decide⟩ rfl wf_11_10 dX11_judge_48 ?_
        refine v_cVI (nA := 3) (As := [bI _, bI _, bR _]) (ix := 303) (cf_X2_judgeRow_1 (b_wp_b h)) rfl kd_7 rfl rfl wc_X2_judgeRow wm_11_303 wi_X2_judgeRow ws_X2_judgeRow wn_2 ⟨by decide, by decide, by decide⟩ rfl ⟨by decide, by decide⟩ ⟨by decide, by decide⟩ (Nat.le_of_ble_eq_true rfl) dX11_judge_51 (fun x9 M10 h => ?_)
        replace h := b_wp_two h
        refine v_istore (i := 4) (ls' := [(4, bI _), (0, bR _), (1, bI _), (2, bI _), (3, bI _)]) (by decide) dX11_judge_54 rfl ?_
        refine v_sub (ls2 := [(0, bR _), (4, bI _)]) [1, 0] rfl ?_
        exact t_X11_judge_b56 h
theorem cf_X11_judge {l : Launch} {E : bE} {M : bM} {v1 : Int} {v2 : Int} {v3 : Int} {Q : (Int × bM) → Prop} (h : b_wp (F_X11_judge v1 v2 v3 M) Q) : b_C l E xX11_judge yX11_judge [bR 0, bI v1, bI v2, bI v3] M (b_pI Q) := b_met (by decide) ⟨rfl, rfl⟩ (Nat.le_of_ble_eq_true rfl) (fun _ _ => t_X11_judge h)
abbrev xX4_isTaxOf : bX := ("BurntHall$Evidence", prog_6_method_19_code, 5, (Option.some Jvm.ClassFile.FieldType.boolean), b_rm 4 0 0, 0, "isTaxOf")
abbrev yX4_isTaxOf : MethodName := ⟨"BurntHall$Evidence", "isTaxOf", "(III)Z"⟩
theorem dX4_isTaxOf_0 : decode prog_6_method_19_code 0 = .ok (.aload_n 0, 1) := by decide +kernel
theorem dX4_isTaxOf_1 : decode prog_6_method_19_code 1 = .ok (.getfield 35, 3) := by decide +kernel
theorem dX4_isTaxOf_4 : decode prog_6_method_19_code 4 = .ok (.iload_n 1, 1) := by decide +kernel
theorem dX4_isTaxOf_5 : decode prog_6_method_19_code 5 = .ok (.iconst 2, 1) := by decide +kernel
theorem dX4_isTaxOf_6 : decode prog_6_method_19_code 6 = .ok (.invokevirtual 114, 3) := by decide +kernel
theorem dX4_isTaxOf_9 : decode prog_6_method_19_code 9 = .ok (.istore 4, 2) := by decide +kernel
theorem dX4_isTaxOf_11 : decode prog_6_method_19_code 11 = .ok (.aload_n 0, 1) := by decide +kernel
theorem dX4_isTaxOf_12 : decode prog_6_method_19_code 12 = .ok (.getfield 31, 3) := by decide +kernel
theorem dX4_isTaxOf_15 : decode prog_6_method_19_code 15 = .ok (.iload 4, 2) := by decide +kernel
theorem dX4_isTaxOf_17 : decode prog_6_method_19_code 17 = .ok (.aload_n 0, 1) := by decide +kernel
theorem dX4_isTaxOf_18 : decode prog_6_method_19_code 18 = .ok (.getfield 31, 3) := by decide +kernel
theorem dX4_isTaxOf_21 : decode prog_6_method_19_code 21 = .ok (.getfield 188, 3) := by decide +kernel
theorem dX4_isTaxOf_24 : decode prog_6_method_19_code 24 = .ok (.iload_n 2, 1) := by decide +kernel
theorem dX4_isTaxOf_25 : decode prog_6_method_19_code 25 = .ok (.laload, 1) := by decide +kernel
theorem dX4_isTaxOf_26 : decode prog_6_method_19_code 26 = .ok (.invokevirtual 192, 3) := by decide +kernel
theorem dX4_isTaxOf_29 : decode prog_6_method_19_code 29 = .ok (.ifCond .eq 48, 3) := by decide +kernel
theorem dX4_isTaxOf_32 : decode prog_6_method_19_code 32 = .ok (.aload_n 0, 1) := by decide +kernel
theorem dX4_isTaxOf_33 : decode prog_6_method_19_code 33 = .ok (.getfield 17, 3) := by decide +kernel
theorem dX4_isTaxOf_36 : decode prog_6_method_19_code 36 = .ok (.iload_n 1, 1) := by decide +kernel
theorem dX4_isTaxOf_37 : decode prog_6_method_19_code 37 = .ok (.baload, 1) := by decide +kernel
theorem dX4_isTaxOf_38 : decode prog_6_method_19_code 38 = .ok (.ifCond .eq 39, 3) := by decide +kernel
theorem dX4_isTaxOf_41 : decode prog_6_method_19_code 41 = .ok (.aload_n 0, 1) := by decide +kernel
theorem dX4_isTaxOf_42 : decode prog_6_method_19_code 42 = .ok (.getfield 35, 3) := by decide +kernel
theorem dX4_isTaxOf_45 : decode prog_6_method_19_code 45 = .ok (.iload_n 1, 1) := by decide +kernel
theorem dX4_isTaxOf_46 : decode prog_6_method_19_code 46 = .ok (.aload_n 0, 1) := by decide +kernel
theorem dX4_isTaxOf_47 : decode prog_6_method_19_code 47 = .ok (.getfield 51, 3) := by decide +kernel
theorem dX4_isTaxOf_50 : decode prog_6_method_19_code 50 = .ok (.invokevirtual 170, 3) := by decide +kernel
theorem dX4_isTaxOf_53 : decode prog_6_method_19_code 53 = .ok (.ifCond .le 24, 3) := by decide +kernel
theorem dX4_isTaxOf_56 : decode prog_6_method_19_code 56 = .ok (.aload_n 0, 1) := by decide +kernel
theorem dX4_isTaxOf_57 : decode prog_6_method_19_code 57 = .ok (.iload_n 1, 1) := by decide +kernel
theorem dX4_isTaxOf_58 : decode prog_6_method_19_code 58 = .ok (.iconst 1, 1) := by decide +kernel
theorem dX4_isTaxOf_59 : decode prog_6_method_19_code 59 = .ok (.invokevirtual 149, 3) := by decide +kernel
theorem dX4_isTaxOf_62 : decode prog_6_method_19_code 62 = .ok (.aload_n 0, 1) := by decide +kernel
theorem dX4_isTaxOf_63 : decode prog_6_method_19_code 63 = .ok (.getfield 27, 3) := by decide +kernel
theorem dX4_isTaxOf_66 : decode prog_6_method_19_code 66 = .ok (.iload_n 3, 1) := by decide +kernel
theorem dX4_isTaxOf_67 : decode prog_6_method_19_code 67 = .ok (.invokevirtual 146, 3) := by decide +kernel
theorem dX4_isTaxOf_70 : decode prog_6_method_19_code 70 = .ok (.if_icmp .ne 7, 3) := by decide +kernel
theorem dX4_isTaxOf_73 : decode prog_6_method_19_code 73 = .ok (.iconst 1, 1) := by decide +kernel
theorem dX4_isTaxOf_74 : decode prog_6_method_19_code 74 = .ok (.goto 4, 3) := by decide +kernel
theorem dX4_isTaxOf_77 : decode prog_6_method_19_code 77 = .ok (.iconst 0, 1) := by decide +kernel
theorem dX4_isTaxOf_78 : decode prog_6_method_19_code 78 = .ok (.ireturn, 1) := by decide +kernel
noncomputable def F_X4_isTaxOf (v1 : Int) (v2 : Int) (v3 : Int) (M : bM) : Option (Int) :=
  b_bind (F_X7_saying v1 2 M) (fun x1 => b_g (0 ≤ v2 ∧ v2 < 60) (b_bind (F_X5_isAmong x1 (M 91 v2) M) (fun x3 => if x3 = 0 then (some 0) else (b_g (0 ≤ v1 ∧ v1 < 120) (if (M 127 v1) = 0 then (some 0) else (b_bind (F_X7_weightBy v1 (M 6 7) M) (fun x7 => if x7 ≤ 0 then (some 0) else (b_bind (F_X4_thing v1 1 M) (fun x9 => b_bind (F_X8_groupOf v3 M) (fun x10 => if x9 = x10 then (some 1) else (some 0)))))))))))
theorem t_X4_isTaxOf {l : Launch} {E : bE} {Q : Int → Prop} {v1 : Int} {v2 : Int} {v3 : Int} {M : bM} (h : b_wp (F_X4_isTaxOf v1 v2 v3 M) (Q)) : V l E xX4_isTaxOf (0, 0) 0 [(0, bR 6), (1, bI v1), (2, bI v2), (3, bI v3)] [] M (b_pIp M Q) := by
  unfold F_X4_isTaxOf at h
  refine v_aload_n (f := 0) 0 rfl dX4_isTaxOf_0 ?_
  refine v_getR (kf := 3) (kz := 3) rfl kd_6 rfl ⟨by decide, by decide⟩ rfl wf_4_35 dX4_isTaxOf_1 ?_
  refine v_iload_n (f := 1) 1 rfl dX4_isTaxOf_4 ?_
  refine v_iconst ⟨by decide, by decide⟩ dX4_isTaxOf_5 ?_
  refine v_cVIp (nA := 2) (As := [bI _, bI _]) (ix := 114) (cf_X7_saying (b_wp_b h)) rfl kd_5 rfl rfl wc_X7_saying wm_4_114 wi_X7_saying ws_X7_saying wn_7 ⟨by decide, by decide, by decide⟩ rfl ⟨by decide, by decide⟩ ⟨by decide, by decide⟩ (Nat.le_of_ble_eq_true rfl) dX4_isTaxOf_6 (fun x1 h => ?_)
  obtain ⟨g2, h⟩ := b_wp_g h
  refine v_istore (i := 4) (ls' := [(4, bI _), (0, bR _), (1, bI _), (2, bI _), (3, bI _)]) (by decide) dX4_isTaxOf_9 rfl ?_
  refine v_aload_n (f := 0) 1 rfl dX4_isTaxOf_11 ?_
  refine v_getR (kf := 2) (kz := 2) rfl kd_6 rfl ⟨by decide, by decide⟩ rfl wf_4_31 dX4_isTaxOf_12 ?_
  refine v_iload (i := 4) 0 rfl dX4_isTaxOf_15 ?_
  refine v_aload_n (f := 0) 1 rfl dX4_isTaxOf_17 ?_
  refine v_getR (kf := 2) (kz := 2) rfl kd_6 rfl ⟨by decide, by decide⟩ rfl wf_4_31 dX4_isTaxOf_18 ?_
  refine v_getR (kf := 7) (kz := 7) rfl kd_3 rfl ⟨by decide, by decide⟩ rfl wf_4_188 dX4_isTaxOf_21 ?_
  refine v_iload_n (f := 2) 3 rfl dX4_isTaxOf_24 ?_
  refine v_laload kd_91 g2 (by decide) dX4_isTaxOf_25 ?_
  refine v_cVIp (nA := 2) (As := [bI _, bJ _]) (ix := 192) (cf_X5_isAmong (b_wp_b h)) rfl kd_3 rfl rfl wc_X5_isAmong wm_4_192 wi_X5_isAmong ws_X5_isAmong wn_5 ⟨by decide, by decide, by decide⟩ rfl ⟨by decide, by decide⟩ ⟨by decide, by decide⟩ (Nat.le_of_ble_eq_true rfl) dX4_isTaxOf_26 (fun x3 h => ?_)
  refine v_if_eq (tgt := 77) dX4_isTaxOf_29 (by decide) (fun c4 => ?_) (fun c4 => ?_)
  · replace h := b_wp_t c4 h
    refine v_iconst ⟨by decide, by decide⟩ dX4_isTaxOf_77 ?_
    refine v_zreturn rfl (Or.inl rfl) dX4_isTaxOf_78 ⟨by decide, by decide⟩ ?_
    exact ⟨_, rfl, rfl, h⟩
  · replace h := b_wp_f c4 h
    obtain ⟨g5, h⟩ := b_wp_g h
    refine v_aload_n (f := 0) 1 rfl dX4_isTaxOf_32 ?_
    refine v_getR (kf := 9) (kz := 9) rfl kd_6 rfl ⟨by decide, by decide⟩ rfl wf_4_17 dX4_isTaxOf_33 ?_
    refine v_iload_n (f := 1) 2 rfl dX4_isTaxOf_36 ?_
    refine v_zaload kd_127 g5 (by decide) dX4_isTaxOf_37 ?_
    refine v_if_eq (tgt := 77) dX4_isTaxOf_38 (by decide) (fun c6 => ?_) (fun c6 => ?_)
    · replace h := b_wp_t c6 h
      refine v_iconst ⟨by decide, by decide⟩ dX4_isTaxOf_77 ?_
      refine v_zreturn rfl (Or.inl rfl) dX4_isTaxOf_78 ⟨by decide, by decide⟩ ?_
      exact ⟨_, rfl, rfl, h⟩
    · replace h := b_wp_f c6 h
      refine v_aload_n (f := 0) 1 rfl dX4_isTaxOf_41 ?_
      refine v_getR (kf := 3) (kz := 3) rfl kd_6 rfl ⟨by decide, by decide⟩ rfl wf_4_35 dX4_isTaxOf_42 ?_
      refine v_iload_n (f := 1) 2 rfl dX4_isTaxOf_45 ?_
      refine v_aload_n (f := 0) 1 rfl dX4_isTaxOf_46 ?_
      refine v_getI (kf := 7) (kz := 7) rfl kd_6 rfl ⟨by decide, by decide⟩ rfl wf_4_51 dX4_isTaxOf_47 ?_
      refine v_cVIp (nA := 2) (As := [bI _, bI _]) (ix := 170) (cf_X7_weightBy (b_wp_b h)) rfl kd_5 rfl rfl wc_X7_weightBy wm_4_170 wi_X7_weightBy ws_X7_weightBy wn_7 ⟨by decide, by decide, by decide⟩ rfl ⟨by decide, by decide⟩ ⟨by decide, by decide⟩ (Nat.le_of_ble_eq_true rfl) dX4_isTaxOf_50 (fun x7 h => ?_)
      refine v_if_le (tgt := 77) dX4_isTaxOf_53 (by decide) (fun c8 => ?_) (fun c8 => ?_)
      · replace h := b_wp_t c8 h
        refine v_iconst ⟨by decide, by decide⟩ dX4_isTaxOf_77 ?_
        refine v_zreturn rfl (Or.inl rfl) dX4_isTaxOf_78 ⟨by decide, by decide⟩ ?_
        exact ⟨_, rfl, rfl, h⟩
      · replace h := b_wp_f c8 h
        refine v_aload_n (f := 0) 1 rfl dX4_isTaxOf_56 ?_
        refine v_iload_n (f := 1) 2 rfl dX4_isTaxOf_57 ?_
        refine v_iconst ⟨by decide, by decide⟩ dX4_isTaxOf_58 ?_
        refine v_cVIp (nA := 2) (As := [bI _, bI _]) (ix := 149) (cf_X4_thing (b_wp_b h)) rfl kd_6 rfl rfl wc_X4_thing wm_4_149 wi_X4_thing ws_X4_thing wn_4 ⟨by decide, by decide, by decide⟩ rfl ⟨by decide, by decide⟩ ⟨by decide, by decide⟩ (Nat.le_of_ble_eq_true rfl) dX4_isTaxOf_59 (fun x9 h => ?_)
        refine v_aload_n (f := 0) 1 rfl dX4_isTaxOf_62 ?_
        refine v_getR (kf := 1) (kz := 1) rfl kd_6 rfl ⟨by decide, by decide⟩ rfl wf_4_27 dX4_isTaxOf_63 ?_
        refine v_iload_n (f := 3) 4 rfl dX4_isTaxOf_66 ?_
        refine v_cVIp (nA := 1) (As := [bI _]) (ix := 146) (cf_X8_groupOf (b_wp_b h)) rfl kd_2 rfl rfl wc_X8_groupOf wm_4_146 wi_X8_groupOf ws_X8_groupOf wn_8 ⟨by decide, by decide, by decide⟩ rfl ⟨by decide, by decide⟩ ⟨by decide, by decide⟩ (Nat.le_of_ble_eq_true rfl) dX4_isTaxOf_67 (fun x10 h => ?_)
        refine v_icmp_ne (tgt := 77) dX4_isTaxOf_70 (by decide) (fun c11 => ?_) (fun c11 => ?_)
        · replace h := b_wp_f c11 h
          refine v_iconst ⟨by decide, by decide⟩ dX4_isTaxOf_77 ?_
          refine v_zreturn rfl (Or.inl rfl) dX4_isTaxOf_78 ⟨by decide, by decide⟩ ?_
          exact ⟨_, rfl, rfl, h⟩
        · replace h := b_wp_t c11 h
          refine v_iconst ⟨by decide, by decide⟩ dX4_isTaxOf_73 ?_
          refine v_goto (tgt := 78) dX4_isTaxOf_74 (by decide) ?_
          refine v_zreturn rfl (Or.inr rfl) dX4_isTaxOf_78 ⟨by decide, by decide⟩ ?_
          exact ⟨_, rfl, rfl, h⟩
theorem cf_X4_isTaxOf {l : Launch} {E : bE} {M : bM} {v1 : Int} {v2 : Int} {v3 : Int} {Q : Int → Prop} (h : b_wp (F_X4_isTaxOf v1 v2 v3 M) Q) : b_C l E xX4_isTaxOf yX4_isTaxOf [bR 6, bI v1, bI v2, bI v3] M (b_pIp M Q) := b_met (by decide) ⟨rfl, rfl⟩ (Nat.le_of_ble_eq_true rfl) (fun _ _ => t_X4_isTaxOf h)
abbrev xX4_years : bX := ("BurntHall$Evidence", prog_6_method_20_code, 4, (Option.some Jvm.ClassFile.FieldType.int), b_rm 1 0 0, 0, "years")
abbrev yX4_years : MethodName := ⟨"BurntHall$Evidence", "years", "(II)I"⟩
theorem dX4_years_0 : decode prog_6_method_20_code 0 = .ok (.iconst 0, 1) := by decide +kernel
theorem dX4_years_1 : decode prog_6_method_20_code 1 = .ok (.istore_n 2, 1) := by decide +kernel
theorem dX4_years_2 : decode prog_6_method_20_code 2 = .ok (.iload_n 0, 1) := by decide +kernel
theorem dX4_years_3 : decode prog_6_method_20_code 3 = .ok (.istore_n 3, 1) := by decide +kernel
theorem dX4_years_4 : decode prog_6_method_20_code 4 = .ok (.iload_n 3, 1) := by decide +kernel
theorem dX4_years_5 : decode prog_6_method_20_code 5 = .ok (.iload_n 1, 1) := by decide +kernel
theorem dX4_years_6 : decode prog_6_method_20_code 6 = .ok (.if_icmp .gt 21, 3) := by decide +kernel
theorem dX4_years_9 : decode prog_6_method_20_code 9 = .ok (.iload_n 3, 1) := by decide +kernel
theorem dX4_years_10 : decode prog_6_method_20_code 10 = .ok (.bipush 27, 2) := by decide +kernel
theorem dX4_years_12 : decode prog_6_method_20_code 12 = .ok (.if_icmp .gt 15, 3) := by decide +kernel
theorem dX4_years_15 : decode prog_6_method_20_code 15 = .ok (.iload_n 2, 1) := by decide +kernel
theorem dX4_years_16 : decode prog_6_method_20_code 16 = .ok (.iconst 1, 1) := by decide +kernel
theorem dX4_years_17 : decode prog_6_method_20_code 17 = .ok (.iload_n 3, 1) := by decide +kernel
theorem dX4_years_18 : decode prog_6_method_20_code 18 = .ok (.ishl, 1) := by decide +kernel
theorem dX4_years_19 : decode prog_6_method_20_code 19 = .ok (.ior, 1) := by decide +kernel
theorem dX4_years_20 : decode prog_6_method_20_code 20 = .ok (.istore_n 2, 1) := by decide +kernel
theorem dX4_years_21 : decode prog_6_method_20_code 21 = .ok (.iinc 3 1, 3) := by decide +kernel
theorem dX4_years_24 : decode prog_6_method_20_code 24 = .ok (.goto (-20), 3) := by decide +kernel
theorem dX4_years_27 : decode prog_6_method_20_code 27 = .ok (.iload_n 2, 1) := by decide +kernel
theorem dX4_years_28 : decode prog_6_method_20_code 28 = .ok (.ireturn, 1) := by decide +kernel
abbrev A_X4_years_4 (l : Launch) (E : bE) (Q : Int → Prop) (v1 : Int) (M : bM) : (Int × Int) → Prop := (fun t : Int × Int => V l E xX4_years (0, 0) 4 [(1, bI v1), (2, bI (t.1)), (3, bI (t.2))] [] M (b_pIp M Q))
abbrev X_X4_years_4 (l : Launch) (E : bE) (Q : Int → Prop) (v1 : Int) (M : bM) : (Int) → Prop := (fun t : Int => V l E xX4_years (0, 0) 27 [(2, bI t)] [] M (b_pIp M Q))
noncomputable def F_X4_years_s4 (v1 : Int) (v2 : Int) (v3 : Int) (M : bM) : Option ((Int × Int) ⊕ (Int)) :=
  if v1 < v3 then (some (.inr (v2))) else (if 27 < v3 then (some (.inr (v2))) else (b_let ((i_or v2 (i_shl 1 v3))) (fun y3 => b_g (b_i32 (v3 + 1)) (some (.inl (y3, (v3 + 1)))))))
theorem t_X4_years_s4 {l : Launch} {E : bE} {Q : Int → Prop} {v1 : Int} {v2 : Int} {v3 : Int} {M : bM} (h : b_wp (F_X4_years_s4 v1 v2 v3 M) (Sum.elim (A_X4_years_4 l E Q v1 M) (X_X4_years_4 l E Q v1 M))) : V l E xX4_years (0, 0) 4 [(1, bI v1), (2, bI v2), (3, bI v3)] [] M (b_pIp M Q) := by
  unfold F_X4_years_s4 at h
  refine v_iload_n (f := 3) 2 rfl dX4_years_4 ?_
  refine v_iload_n (f := 1) 0 rfl dX4_years_5 ?_
  refine v_icmp_gt (tgt := 27) dX4_years_6 (by decide) (fun c1 => ?_) (fun c1 => ?_)
  · replace h := b_wp_t c1 h
    refine v_sub (ls2 := [(2, bI _)]) [1] rfl ?_
    exact h
  · replace h := b_wp_f c1 h
    refine v_iload_n (f := 3) 2 rfl dX4_years_9 ?_
    refine v_bipush ⟨by decide, by decide⟩ (by decide) dX4_years_10 ?_
    refine v_icmp_gt (tgt := 27) dX4_years_12 (by decide) (fun c2 => ?_) (fun c2 => ?_)
    · replace h := b_wp_t c2 h
      refine v_sub (ls2 := [(2, bI _)]) [1] rfl ?_
      exact h
    · replace h := b_wp_f c2 h
      refine v_iload_n (f := 2) 1 rfl dX4_years_15 ?_
      refine v_iconst ⟨by decide, by decide⟩ dX4_years_16 ?_
      refine v_iload_n (f := 3) 2 rfl dX4_years_17 ?_
      refine v_ishl (v := i_shl _ _) rfl dX4_years_18 ?_
      refine v_ior (v := i_or _ _) rfl dX4_years_19 ?_
      replace h := b_wp_l h
      obtain ⟨g4, h⟩ := b_wp_g h
      refine v_istore_n (g := 2) (i := 2) (ls' := [(2, bI _), (1, bI _), (3, bI _)]) rfl (by decide) dX4_years_20 rfl ?_
      refine v_iincN (ls' := [(3, bI _), (2, bI _), (1, bI _)]) 2 rfl (by decide) g4 dX4_years_21 rfl ?_
      refine v_goto (tgt := 4) dX4_years_24 (by decide) ?_
      refine v_sub (ls2 := [(1, bI _), (2, bI _), (3, bI _)]) [2, 1, 0] rfl ?_
      exact h
theorem l_X4_years_4 {l : Launch} {E : bE} {Q : Int → Prop} {v1 : Int} {M : bM} {s : Int × Int} (h : b_wp (b_loop (fun t => F_X4_years_s4 v1 t.1 t.2 M) s) (X_X4_years_4 l E Q v1 M)) : A_X4_years_4 l E Q v1 M s := b_loop_wp (fun t h => t_X4_years_s4 h) s h
noncomputable def F_X4_years_b27 (v2 : Int) (M : bM) : Option (Int) :=
  some v2
theorem t_X4_years_b27 {l : Launch} {E : bE} {Q : Int → Prop} {v2 : Int} {M : bM} (h : b_wp (F_X4_years_b27 v2 M) (Q)) : V l E xX4_years (0, 0) 27 [(2, bI v2)] [] M (b_pIp M Q) := by
  unfold F_X4_years_b27 at h
  refine v_iload_n (f := 2) 0 rfl dX4_years_27 ?_
  refine v_ireturn rfl dX4_years_28 ⟨by decide, by decide⟩ ?_
  exact ⟨_, rfl, rfl, h⟩
noncomputable def F_X4_years (v0 : Int) (v1 : Int) (M : bM) : Option (Int) :=
  b_bind (b_loop (fun t => F_X4_years_s4 v1 t.1 t.2 M) (0, v0)) (fun t => F_X4_years_b27 t M)
theorem t_X4_years {l : Launch} {E : bE} {Q : Int → Prop} {v0 : Int} {v1 : Int} {M : bM} (h : b_wp (F_X4_years v0 v1 M) (Q)) : V l E xX4_years (0, 0) 0 [(0, bI v0), (1, bI v1)] [] M (b_pIp M Q) := by
  unfold F_X4_years at h
  refine v_iconst ⟨by decide, by decide⟩ dX4_years_0 ?_
  refine v_istore_n (g := 2) (i := 2) (ls' := [(2, bI _), (0, bI _), (1, bI _)]) rfl (by decide) dX4_years_1 rfl ?_
  refine v_iload_n (f := 0) 1 rfl dX4_years_2 ?_
  refine v_istore_n (g := 3) (i := 3) (ls' := [(3, bI _), (2, bI _), (0, bI _), (1, bI _)]) rfl (by decide) dX4_years_3 rfl ?_
  refine v_sub (ls2 := [(1, bI _), (2, bI _), (3, bI _)]) [3, 1, 0] rfl ?_
  refine l_X4_years_4 (b_wp_m (fun t h => ?_) (b_wp_b h))
  show V l E xX4_years (0, 0) 27 [(2, bI _)] [] _ (b_pIp M Q)
  exact t_X4_years_b27 h
theorem cf_X4_years {l : Launch} {E : bE} {M : bM} {v0 : Int} {v1 : Int} {Q : Int → Prop} (h : b_wp (F_X4_years v0 v1 M) Q) : b_C l E xX4_years yX4_years [bI v0, bI v1] M (b_pIp M Q) := b_met (by decide) ⟨rfl, rfl⟩ (Nat.le_of_ble_eq_true rfl) (fun _ _ => t_X4_years h)
abbrev xX4_yearsHeld : bX := ("BurntHall$Evidence", prog_6_method_18_code, 7, (Option.some Jvm.ClassFile.FieldType.int), b_rm 5 0 0, 0, "yearsHeld")
abbrev yX4_yearsHeld : MethodName := ⟨"BurntHall$Evidence", "yearsHeld", "(III)I"⟩
theorem dX4_yearsHeld_0 : decode prog_6_method_18_code 0 = .ok (.iconst 0, 1) := by decide +kernel
theorem dX4_yearsHeld_1 : decode prog_6_method_18_code 1 = .ok (.istore 4, 2) := by decide +kernel
theorem dX4_yearsHeld_3 : decode prog_6_method_18_code 3 = .ok (.iconst 0, 1) := by decide +kernel
theorem dX4_yearsHeld_4 : decode prog_6_method_18_code 4 = .ok (.istore 5, 2) := by decide +kernel
theorem dX4_yearsHeld_6 : decode prog_6_method_18_code 6 = .ok (.iload 5, 2) := by decide +kernel
theorem dX4_yearsHeld_8 : decode prog_6_method_18_code 8 = .ok (.aload_n 0, 1) := by decide +kernel
theorem dX4_yearsHeld_9 : decode prog_6_method_18_code 9 = .ok (.getfield 35, 3) := by decide +kernel
theorem dX4_yearsHeld_12 : decode prog_6_method_18_code 12 = .ok (.getfield 73, 3) := by decide +kernel
theorem dX4_yearsHeld_15 : decode prog_6_method_18_code 15 = .ok (.if_icmp .ge 70, 3) := by decide +kernel
theorem dX4_yearsHeld_18 : decode prog_6_method_18_code 18 = .ok (.aload_n 0, 1) := by decide +kernel
theorem dX4_yearsHeld_19 : decode prog_6_method_18_code 19 = .ok (.getfield 35, 3) := by decide +kernel
theorem dX4_yearsHeld_22 : decode prog_6_method_18_code 22 = .ok (.getfield 173, 3) := by decide +kernel
theorem dX4_yearsHeld_25 : decode prog_6_method_18_code 25 = .ok (.iload 5, 2) := by decide +kernel
theorem dX4_yearsHeld_27 : decode prog_6_method_18_code 27 = .ok (.iaload, 1) := by decide +kernel
theorem dX4_yearsHeld_28 : decode prog_6_method_18_code 28 = .ok (.iconst 4, 1) := by decide +kernel
theorem dX4_yearsHeld_29 : decode prog_6_method_18_code 29 = .ok (.if_icmp .ne 50, 3) := by decide +kernel
theorem dX4_yearsHeld_32 : decode prog_6_method_18_code 32 = .ok (.aload_n 0, 1) := by decide +kernel
theorem dX4_yearsHeld_33 : decode prog_6_method_18_code 33 = .ok (.iload 5, 2) := by decide +kernel
theorem dX4_yearsHeld_35 : decode prog_6_method_18_code 35 = .ok (.iload_n 1, 1) := by decide +kernel
theorem dX4_yearsHeld_36 : decode prog_6_method_18_code 36 = .ok (.iload_n 2, 1) := by decide +kernel
theorem dX4_yearsHeld_37 : decode prog_6_method_18_code 37 = .ok (.invokevirtual 182, 3) := by decide +kernel
theorem dX4_yearsHeld_40 : decode prog_6_method_18_code 40 = .ok (.ifCond .eq 39, 3) := by decide +kernel
theorem dX4_yearsHeld_43 : decode prog_6_method_18_code 43 = .ok (.iload 4, 2) := by decide +kernel
theorem dX4_yearsHeld_45 : decode prog_6_method_18_code 45 = .ok (.aload_n 0, 1) := by decide +kernel
theorem dX4_yearsHeld_46 : decode prog_6_method_18_code 46 = .ok (.getfield 35, 3) := by decide +kernel
theorem dX4_yearsHeld_49 : decode prog_6_method_18_code 49 = .ok (.getfield 117, 3) := by decide +kernel
theorem dX4_yearsHeld_52 : decode prog_6_method_18_code 52 = .ok (.iload 5, 2) := by decide +kernel
theorem dX4_yearsHeld_54 : decode prog_6_method_18_code 54 = .ok (.iaload, 1) := by decide +kernel
theorem dX4_yearsHeld_55 : decode prog_6_method_18_code 55 = .ok (.sipush 365, 3) := by decide +kernel
theorem dX4_yearsHeld_58 : decode prog_6_method_18_code 58 = .ok (.idiv, 1) := by decide +kernel
theorem dX4_yearsHeld_59 : decode prog_6_method_18_code 59 = .ok (.aload_n 0, 1) := by decide +kernel
theorem dX4_yearsHeld_60 : decode prog_6_method_18_code 60 = .ok (.getfield 35, 3) := by decide +kernel
theorem dX4_yearsHeld_63 : decode prog_6_method_18_code 63 = .ok (.getfield 120, 3) := by decide +kernel
theorem dX4_yearsHeld_66 : decode prog_6_method_18_code 66 = .ok (.iload 5, 2) := by decide +kernel
theorem dX4_yearsHeld_68 : decode prog_6_method_18_code 68 = .ok (.iaload, 1) := by decide +kernel
theorem dX4_yearsHeld_69 : decode prog_6_method_18_code 69 = .ok (.sipush 365, 3) := by decide +kernel
theorem dX4_yearsHeld_72 : decode prog_6_method_18_code 72 = .ok (.idiv, 1) := by decide +kernel
theorem dX4_yearsHeld_73 : decode prog_6_method_18_code 73 = .ok (.invokestatic 185, 3) := by decide +kernel
theorem dX4_yearsHeld_76 : decode prog_6_method_18_code 76 = .ok (.ior, 1) := by decide +kernel
theorem dX4_yearsHeld_77 : decode prog_6_method_18_code 77 = .ok (.istore 4, 2) := by decide +kernel
theorem dX4_yearsHeld_79 : decode prog_6_method_18_code 79 = .ok (.iinc 5 1, 3) := by decide +kernel
theorem dX4_yearsHeld_82 : decode prog_6_method_18_code 82 = .ok (.goto (-76), 3) := by decide +kernel
theorem dX4_yearsHeld_85 : decode prog_6_method_18_code 85 = .ok (.iconst 0, 1) := by decide +kernel
theorem dX4_yearsHeld_86 : decode prog_6_method_18_code 86 = .ok (.istore 5, 2) := by decide +kernel
theorem dX4_yearsHeld_88 : decode prog_6_method_18_code 88 = .ok (.iload_n 3, 1) := by decide +kernel
theorem dX4_yearsHeld_89 : decode prog_6_method_18_code 89 = .ok (.istore 6, 2) := by decide +kernel
theorem dX4_yearsHeld_91 : decode prog_6_method_18_code 91 = .ok (.iload 6, 2) := by decide +kernel
theorem dX4_yearsHeld_93 : decode prog_6_method_18_code 93 = .ok (.ifCond .lt 22, 3) := by decide +kernel
theorem dX4_yearsHeld_96 : decode prog_6_method_18_code 96 = .ok (.iload 4, 2) := by decide +kernel
theorem dX4_yearsHeld_98 : decode prog_6_method_18_code 98 = .ok (.iload 6, 2) := by decide +kernel
theorem dX4_yearsHeld_100 : decode prog_6_method_18_code 100 = .ok (.ishr, 1) := by decide +kernel
theorem dX4_yearsHeld_101 : decode prog_6_method_18_code 101 = .ok (.iconst 1, 1) := by decide +kernel
theorem dX4_yearsHeld_102 : decode prog_6_method_18_code 102 = .ok (.iand, 1) := by decide +kernel
theorem dX4_yearsHeld_103 : decode prog_6_method_18_code 103 = .ok (.ifCond .eq 12, 3) := by decide +kernel
theorem dX4_yearsHeld_106 : decode prog_6_method_18_code 106 = .ok (.iinc 5 1, 3) := by decide +kernel
theorem dX4_yearsHeld_109 : decode prog_6_method_18_code 109 = .ok (.iinc 6 (-1), 3) := by decide +kernel
theorem dX4_yearsHeld_112 : decode prog_6_method_18_code 112 = .ok (.goto (-21), 3) := by decide +kernel
theorem dX4_yearsHeld_115 : decode prog_6_method_18_code 115 = .ok (.iload 5, 2) := by decide +kernel
theorem dX4_yearsHeld_117 : decode prog_6_method_18_code 117 = .ok (.ireturn, 1) := by decide +kernel
abbrev A_X4_yearsHeld_6 (l : Launch) (E : bE) (Q : Int → Prop) (v1 : Int) (v2 : Int) (v3 : Int) (M : bM) : (Int × Int) → Prop := (fun t : Int × Int => V l E xX4_yearsHeld (0, 0) 6 [(0, bR 6), (1, bI v1), (2, bI v2), (3, bI v3), (4, bI (t.1)), (5, bI (t.2))] [] M (b_pIp M Q))
abbrev X_X4_yearsHeld_6 (l : Launch) (E : bE) (Q : Int → Prop) (v1 : Int) (v2 : Int) (v3 : Int) (M : bM) : (Int) → Prop := (fun t : Int => V l E xX4_yearsHeld (0, 0) 85 [(3, bI v3), (4, bI t)] [] M (b_pIp M Q))
noncomputable def F_X4_yearsHeld_s6 (v1 : Int) (v2 : Int) (v3 : Int) (v4 : Int) (v5 : Int) (M : bM) : Option ((Int × Int) ⊕ (Int)) :=
  if (M 5 0) ≤ v5 then (some (.inr (v4))) else (b_g (0 ≤ v5 ∧ v5 < 120) (if (M 110 v5) = 4 then (b_bind (F_X4_isTaxOf v5 v1 v2 M) (fun x5 => if x5 = 0 then (b_g (b_i32 (v5 + 1)) (some (.inl (v4, (v5 + 1))))) else (b_g (0 ≤ v5 ∧ v5 < 120) (b_bind (F_X4_years (i_div (M 113 v5) 365) (i_div (M 114 v5) 365) M) (fun x9 => b_let ((i_or v4 x9)) (fun y10 => b_g (b_i32 (v5 + 1)) (some (.inl (y10, (v5 + 1)))))))))) else (b_g (b_i32 (v5 + 1)) (some (.inl (v4, (v5 + 1)))))))
theorem t_X4_yearsHeld_s6 {l : Launch} {E : bE} {Q : Int → Prop} {v1 : Int} {v2 : Int} {v3 : Int} {v4 : Int} {v5 : Int} {M : bM} (h : b_wp (F_X4_yearsHeld_s6 v1 v2 v3 v4 v5 M) (Sum.elim (A_X4_yearsHeld_6 l E Q v1 v2 v3 M) (X_X4_yearsHeld_6 l E Q v1 v2 v3 M))) : V l E xX4_yearsHeld (0, 0) 6 [(0, bR 6), (1, bI v1), (2, bI v2), (3, bI v3), (4, bI v4), (5, bI v5)] [] M (b_pIp M Q) := by
  unfold F_X4_yearsHeld_s6 at h
  refine v_iload (i := 5) 5 rfl dX4_yearsHeld_6 ?_
  refine v_aload_n (f := 0) 0 rfl dX4_yearsHeld_8 ?_
  refine v_getR (kf := 3) (kz := 3) rfl kd_6 rfl ⟨by decide, by decide⟩ rfl wf_4_35 dX4_yearsHeld_9 ?_
  refine v_getI (kf := 0) (kz := 0) rfl kd_5 rfl ⟨by decide, by decide⟩ rfl wf_4_73 dX4_yearsHeld_12 ?_
  refine v_icmp_ge (tgt := 85) dX4_yearsHeld_15 (by decide) (fun c1 => ?_) (fun c1 => ?_)
  · replace h := b_wp_t c1 h
    refine v_sub (ls2 := [(3, bI _), (4, bI _)]) [3, 4] rfl ?_
    exact h
  · replace h := b_wp_f c1 h
    obtain ⟨g2, h⟩ := b_wp_g h
    refine v_aload_n (f := 0) 0 rfl dX4_yearsHeld_18 ?_
    refine v_getR (kf := 3) (kz := 3) rfl kd_6 rfl ⟨by decide, by decide⟩ rfl wf_4_35 dX4_yearsHeld_19 ?_
    refine v_getR (kf := 2) (kz := 2) rfl kd_5 rfl ⟨by decide, by decide⟩ rfl wf_4_173 dX4_yearsHeld_22 ?_
    refine v_iload (i := 5) 5 rfl dX4_yearsHeld_25 ?_
    refine v_iaload kd_110 g2 (by decide) dX4_yearsHeld_27 ?_
    refine v_iconst ⟨by decide, by decide⟩ dX4_yearsHeld_28 ?_
    refine v_icmp_ne (tgt := 79) dX4_yearsHeld_29 (by decide) (fun c3 => ?_) (fun c3 => ?_)
    · replace h := b_wp_f c3 h
      obtain ⟨g4, h⟩ := b_wp_g h
      refine v_iincN (ls' := [(5, bI _), (0, bR _), (1, bI _), (2, bI _), (3, bI _), (4, bI _)]) 5 rfl (by decide) g4 dX4_yearsHeld_79 rfl ?_
      refine v_goto (tgt := 6) dX4_yearsHeld_82 (by decide) ?_
      refine v_sub (ls2 := [(0, bR _), (1, bI _), (2, bI _), (3, bI _), (4, bI _), (5, bI _)]) [1, 2, 3, 4, 5, 0] rfl ?_
      exact h
    · replace h := b_wp_t c3 h
      refine v_aload_n (f := 0) 0 rfl dX4_yearsHeld_32 ?_
      refine v_iload (i := 5) 5 rfl dX4_yearsHeld_33 ?_
      refine v_iload_n (f := 1) 1 rfl dX4_yearsHeld_35 ?_
      refine v_iload_n (f := 2) 2 rfl dX4_yearsHeld_36 ?_
      refine v_cVIp (nA := 3) (As := [bI _, bI _, bI _]) (ix := 182) (cf_X4_isTaxOf (b_wp_b h)) rfl kd_6 rfl rfl wc_X4_isTaxOf wm_4_182 wi_X4_isTaxOf ws_X4_isTaxOf wn_4 ⟨by decide, by decide, by decide⟩ rfl ⟨by decide, by decide⟩ ⟨by decide, by decide⟩ (Nat.le_of_ble_eq_true rfl) dX4_yearsHeld_37 (fun x5 h => ?_)
      refine v_if_eq (tgt := 79) dX4_yearsHeld_40 (by decide) (fun c6 => ?_) (fun c6 => ?_)
      · replace h := b_wp_t c6 h
        obtain ⟨g7, h⟩ := b_wp_g h
        refine v_iincN (ls' := [(5, bI _), (0, bR _), (1, bI _), (2, bI _), (3, bI _), (4, bI _)]) 5 rfl (by decide) g7 dX4_yearsHeld_79 rfl ?_
        refine v_goto (tgt := 6) dX4_yearsHeld_82 (by decide) ?_
        refine v_sub (ls2 := [(0, bR _), (1, bI _), (2, bI _), (3, bI _), (4, bI _), (5, bI _)]) [1, 2, 3, 4, 5, 0] rfl ?_
        exact h
      · replace h := b_wp_f c6 h
        obtain ⟨g8, h⟩ := b_wp_g h
        refine v_iload (i := 4) 4 rfl dX4_yearsHeld_43 ?_
        refine v_aload_n (f := 0) 0 rfl dX4_yearsHeld_45 ?_
        refine v_getR (kf := 3) (kz := 3) rfl kd_6 rfl ⟨by decide, by decide⟩ rfl wf_4_35 dX4_yearsHeld_46 ?_
        refine v_getR (kf := 5) (kz := 5) rfl kd_5 rfl ⟨by decide, by decide⟩ rfl wf_4_117 dX4_yearsHeld_49 ?_
        refine v_iload (i := 5) 5 rfl dX4_yearsHeld_52 ?_
        refine v_iaload kd_113 g8 (by decide) dX4_yearsHeld_54 ?_
        refine v_sipush ⟨by decide, by decide⟩ (by decide) dX4_yearsHeld_55 ?_
        refine v_idiv (v := i_div _ _) (by decide) rfl dX4_yearsHeld_58 ?_
        refine v_aload_n (f := 0) 0 rfl dX4_yearsHeld_59 ?_
        refine v_getR (kf := 3) (kz := 3) rfl kd_6 rfl ⟨by decide, by decide⟩ rfl wf_4_35 dX4_yearsHeld_60 ?_
        refine v_getR (kf := 6) (kz := 6) rfl kd_5 rfl ⟨by decide, by decide⟩ rfl wf_4_120 dX4_yearsHeld_63 ?_
        refine v_iload (i := 5) 5 rfl dX4_yearsHeld_66 ?_
        refine v_iaload kd_114 g8 (by decide) dX4_yearsHeld_68 ?_
        refine v_sipush ⟨by decide, by decide⟩ (by decide) dX4_yearsHeld_69 ?_
        refine v_idiv (v := i_div _ _) (by decide) rfl dX4_yearsHeld_72 ?_
        refine v_cSIp (nA := 2) (As := [bI _, bI _]) (ix := 185) (cf_X4_years (b_wp_b h)) rfl wc_X4_years wm_4_185 wi_X4_years wn_4 ⟨by decide, by decide, by decide⟩ rfl ⟨by decide, by decide⟩ ⟨by decide, by decide⟩ (Nat.le_of_ble_eq_true rfl) dX4_yearsHeld_73 (fun x9 h => ?_)
        refine v_ior (v := i_or _ _) rfl dX4_yearsHeld_76 ?_
        replace h := b_wp_l h
        obtain ⟨g11, h⟩ := b_wp_g h
        refine v_istore (i := 4) (ls' := [(4, bI _), (0, bR _), (1, bI _), (2, bI _), (3, bI _), (5, bI _)]) (by decide) dX4_yearsHeld_77 rfl ?_
        refine v_iincN (ls' := [(5, bI _), (4, bI _), (0, bR _), (1, bI _), (2, bI _), (3, bI _)]) 5 rfl (by decide) g11 dX4_yearsHeld_79 rfl ?_
        refine v_goto (tgt := 6) dX4_yearsHeld_82 (by decide) ?_
        refine v_sub (ls2 := [(0, bR _), (1, bI _), (2, bI _), (3, bI _), (4, bI _), (5, bI _)]) [2, 3, 4, 5, 1, 0] rfl ?_
        exact h
theorem l_X4_yearsHeld_6 {l : Launch} {E : bE} {Q : Int → Prop} {v1 : Int} {v2 : Int} {v3 : Int} {M : bM} {s : Int × Int} (h : b_wp (b_loop (fun t => F_X4_yearsHeld_s6 v1 v2 v3 t.1 t.2 M) s) (X_X4_yearsHeld_6 l E Q v1 v2 v3 M)) : A_X4_yearsHeld_6 l E Q v1 v2 v3 M s := b_loop_wp (fun t h => t_X4_yearsHeld_s6 h) s h
abbrev A_X4_yearsHeld_91 (l : Launch) (E : bE) (Q : Int → Prop) (v4 : Int) (M : bM) : (Int × Int) → Prop := (fun t : Int × Int => V l E xX4_yearsHeld (0, 0) 91 [(4, bI v4), (5, bI (t.1)), (6, bI (t.2))] [] M (b_pIp M Q))
abbrev X_X4_yearsHeld_91 (l : Launch) (E : bE) (Q : Int → Prop) (v4 : Int) (M : bM) : (Int) → Prop := (fun t : Int => V l E xX4_yearsHeld (0, 0) 115 [(5, bI t)] [] M (b_pIp M Q))
noncomputable def F_X4_yearsHeld_s91 (v4 : Int) (v5 : Int) (v6 : Int) (M : bM) : Option ((Int × Int) ⊕ (Int)) :=
  if v6 < 0 then (some (.inr (v5))) else (if (i_and (i_shr v4 v6) 1) = 0 then (some (.inr (v5))) else (b_g ((b_i32 (v5 + 1)) ∧ (b_i32 (v6 + (-1)))) (some (.inl ((v5 + 1), (v6 + (-1)))))))
theorem t_X4_yearsHeld_s91 {l : Launch} {E : bE} {Q : Int → Prop} {v4 : Int} {v5 : Int} {v6 : Int} {M : bM} (h : b_wp (F_X4_yearsHeld_s91 v4 v5 v6 M) (Sum.elim (A_X4_yearsHeld_91 l E Q v4 M) (X_X4_yearsHeld_91 l E Q v4 M))) : V l E xX4_yearsHeld (0, 0) 91 [(4, bI v4), (5, bI v5), (6, bI v6)] [] M (b_pIp M Q) := by
  unfold F_X4_yearsHeld_s91 at h
  refine v_iload (i := 6) 2 rfl dX4_yearsHeld_91 ?_
  refine v_if_lt (tgt := 115) dX4_yearsHeld_93 (by decide) (fun c12 => ?_) (fun c12 => ?_)
  · replace h := b_wp_t c12 h
    refine v_sub (ls2 := [(5, bI _)]) [1] rfl ?_
    exact h
  · replace h := b_wp_f c12 h
    refine v_iload (i := 4) 0 rfl dX4_yearsHeld_96 ?_
    refine v_iload (i := 6) 2 rfl dX4_yearsHeld_98 ?_
    refine v_ishr (v := i_shr _ _) rfl dX4_yearsHeld_100 ?_
    refine v_iconst ⟨by decide, by decide⟩ dX4_yearsHeld_101 ?_
    refine v_iand (v := i_and _ _) rfl dX4_yearsHeld_102 ?_
    refine v_if_eq (tgt := 115) dX4_yearsHeld_103 (by decide) (fun c13 => ?_) (fun c13 => ?_)
    · replace h := b_wp_t c13 h
      refine v_sub (ls2 := [(5, bI _)]) [1] rfl ?_
      exact h
    · replace h := b_wp_f c13 h
      obtain ⟨⟨g14, g15⟩, h⟩ := b_wp_g h
      refine v_iincN (ls' := [(5, bI _), (4, bI _), (6, bI _)]) 1 rfl (by decide) g14 dX4_yearsHeld_106 rfl ?_
      refine v_iincN (ls' := [(6, bI _), (5, bI _), (4, bI _)]) 2 rfl (by decide) g15 dX4_yearsHeld_109 rfl ?_
      refine v_goto (tgt := 91) dX4_yearsHeld_112 (by decide) ?_
      refine v_sub (ls2 := [(4, bI _), (5, bI _), (6, bI _)]) [2, 1, 0] rfl ?_
      exact h
theorem l_X4_yearsHeld_91 {l : Launch} {E : bE} {Q : Int → Prop} {v4 : Int} {M : bM} {s : Int × Int} (h : b_wp (b_loop (fun t => F_X4_yearsHeld_s91 v4 t.1 t.2 M) s) (X_X4_yearsHeld_91 l E Q v4 M)) : A_X4_yearsHeld_91 l E Q v4 M s := b_loop_wp (fun t h => t_X4_yearsHeld_s91 h) s h
noncomputable def F_X4_yearsHeld_b115 (v5 : Int) (M : bM) : Option (Int) :=
  some v5
theorem t_X4_yearsHeld_b115 {l : Launch} {E : bE} {Q : Int → Prop} {v5 : Int} {M : bM} (h : b_wp (F_X4_yearsHeld_b115 v5 M) (Q)) : V l E xX4_yearsHeld (0, 0) 115 [(5, bI v5)] [] M (b_pIp M Q) := by
  unfold F_X4_yearsHeld_b115 at h
  refine v_iload (i := 5) 0 rfl dX4_yearsHeld_115 ?_
  refine v_ireturn rfl dX4_yearsHeld_117 ⟨by decide, by decide⟩ ?_
  exact ⟨_, rfl, rfl, h⟩
noncomputable def F_X4_yearsHeld_b85 (v3 : Int) (v4 : Int) (M : bM) : Option (Int) :=
  b_bind (b_loop (fun t => F_X4_yearsHeld_s91 v4 t.1 t.2 M) (0, v3)) (fun t => F_X4_yearsHeld_b115 t M)
theorem t_X4_yearsHeld_b85 {l : Launch} {E : bE} {Q : Int → Prop} {v3 : Int} {v4 : Int} {M : bM} (h : b_wp (F_X4_yearsHeld_b85 v3 v4 M) (Q)) : V l E xX4_yearsHeld (0, 0) 85 [(3, bI v3), (4, bI v4)] [] M (b_pIp M Q) := by
  unfold F_X4_yearsHeld_b85 at h
  refine v_iconst ⟨by decide, by decide⟩ dX4_yearsHeld_85 ?_
  refine v_istore (i := 5) (ls' := [(5, bI _), (3, bI _), (4, bI _)]) (by decide) dX4_yearsHeld_86 rfl ?_
  refine v_iload_n (f := 3) 1 rfl dX4_yearsHeld_88 ?_
  refine v_istore (i := 6) (ls' := [(6, bI _), (5, bI _), (3, bI _), (4, bI _)]) (by decide) dX4_yearsHeld_89 rfl ?_
  refine v_sub (ls2 := [(4, bI _), (5, bI _), (6, bI _)]) [3, 1, 0] rfl ?_
  refine l_X4_yearsHeld_91 (b_wp_m (fun t h => ?_) (b_wp_b h))
  show V l E xX4_yearsHeld (0, 0) 115 [(5, bI _)] [] _ (b_pIp M Q)
  exact t_X4_yearsHeld_b115 h
noncomputable def F_X4_yearsHeld (v1 : Int) (v2 : Int) (v3 : Int) (M : bM) : Option (Int) :=
  b_bind (b_loop (fun t => F_X4_yearsHeld_s6 v1 v2 v3 t.1 t.2 M) (0, 0)) (fun t => F_X4_yearsHeld_b85 v3 t M)
theorem t_X4_yearsHeld {l : Launch} {E : bE} {Q : Int → Prop} {v1 : Int} {v2 : Int} {v3 : Int} {M : bM} (h : b_wp (F_X4_yearsHeld v1 v2 v3 M) (Q)) : V l E xX4_yearsHeld (0, 0) 0 [(0, bR 6), (1, bI v1), (2, bI v2), (3, bI v3)] [] M (b_pIp M Q) := by
  unfold F_X4_yearsHeld at h
  refine v_iconst ⟨by decide, by decide⟩ dX4_yearsHeld_0 ?_
  refine v_istore (i := 4) (ls' := [(4, bI _), (0, bR _), (1, bI _), (2, bI _), (3, bI _)]) (by decide) dX4_yearsHeld_1 rfl ?_
  refine v_iconst ⟨by decide, by decide⟩ dX4_yearsHeld_3 ?_
  refine v_istore (i := 5) (ls' := [(5, bI _), (4, bI _), (0, bR _), (1, bI _), (2, bI _), (3, bI _)]) (by decide) dX4_yearsHeld_4 rfl ?_
  refine v_sub (ls2 := [(0, bR _), (1, bI _), (2, bI _), (3, bI _), (4, bI _), (5, bI _)]) [2, 3, 4, 5, 1, 0] rfl ?_
  refine l_X4_yearsHeld_6 (b_wp_m (fun t h => ?_) (b_wp_b h))
  show V l E xX4_yearsHeld (0, 0) 85 [(3, bI _), (4, bI _)] [] _ (b_pIp M Q)
  exact t_X4_yearsHeld_b85 h
theorem cf_X4_yearsHeld {l : Launch} {E : bE} {M : bM} {v1 : Int} {v2 : Int} {v3 : Int} {Q : Int → Prop} (h : b_wp (F_X4_yearsHeld v1 v2 v3 M) Q) : b_C l E xX4_yearsHeld yX4_yearsHeld [bR 6, bI v1, bI v2, bI v3] M (b_pIp M Q) := b_met (by decide) ⟨rfl, rfl⟩ (Nat.le_of_ble_eq_true rfl) (fun _ _ => t_X4_yearsHeld h)
abbrev xX11_held : bX := ("BurntHall", prog_1_method_39_code, 5, (Option.some Jvm.ClassFile.FieldType.int), b_rm 7 0 0, 0, "held")
abbrev yX11_held : MethodName := ⟨"BurntHall", "held", "(IIII)I"⟩
theorem dX11_held_0 : decode prog_1_method_39_code 0 = .ok (.aload_n 0, 1) := by decide +kernel
theorem dX11_held_1 : decode prog_1_method_39_code 1 = .ok (.getfield 26, 3) := by decide +kernel
theorem dX11_held_4 : decode prog_1_method_39_code 4 = .ok (.iload_n 1, 1) := by decide +kernel
theorem dX11_held_5 : decode prog_1_method_39_code 5 = .ok (.invokevirtual 146, 3) := by decide +kernel
theorem dX11_held_8 : decode prog_1_method_39_code 8 = .ok (.ifCond .eq 32, 3) := by decide +kernel
theorem dX11_held_11 : decode prog_1_method_39_code 11 = .ok (.aload_n 0, 1) := by decide +kernel
theorem dX11_held_12 : decode prog_1_method_39_code 12 = .ok (.getfield 19, 3) := by decide +kernel
theorem dX11_held_15 : decode prog_1_method_39_code 15 = .ok (.iload_n 2, 1) := by decide +kernel
theorem dX11_held_16 : decode prog_1_method_39_code 16 = .ok (.invokevirtual 110, 3) := by decide +kernel
theorem dX11_held_19 : decode prog_1_method_39_code 19 = .ok (.ifCond .eq 21, 3) := by decide +kernel
theorem dX11_held_22 : decode prog_1_method_39_code 22 = .ok (.iload_n 3, 1) := by decide +kernel
theorem dX11_held_23 : decode prog_1_method_39_code 23 = .ok (.ifCond .lt 17, 3) := by decide +kernel
theorem dX11_held_26 : decode prog_1_method_39_code 26 = .ok (.iload_n 3, 1) := by decide +kernel
theorem dX11_held_27 : decode prog_1_method_39_code 27 = .ok (.bipush 27, 2) := by decide +kernel
theorem dX11_held_29 : decode prog_1_method_39_code 29 = .ok (.if_icmp .gt 11, 3) := by decide +kernel
theorem dX11_held_32 : decode prog_1_method_39_code 32 = .ok (.iload 4, 2) := by decide +kernel
theorem dX11_held_34 : decode prog_1_method_39_code 34 = .ok (.invokestatic 102, 3) := by decide +kernel
theorem dX11_held_37 : decode prog_1_method_39_code 37 = .ok (.ifCond .ne 6, 3) := by decide +kernel
theorem dX11_held_40 : decode prog_1_method_39_code 40 = .ok (.bipush (-2), 2) := by decide +kernel
theorem dX11_held_42 : decode prog_1_method_39_code 42 = .ok (.ireturn, 1) := by decide +kernel
theorem dX11_held_43 : decode prog_1_method_39_code 43 = .ok (.aload_n 0, 1) := by decide +kernel
theorem dX11_held_44 : decode prog_1_method_39_code 44 = .ok (.getfield 51, 3) := by decide +kernel
theorem dX11_held_47 : decode prog_1_method_39_code 47 = .ok (.iload 4, 2) := by decide +kernel
theorem dX11_held_49 : decode prog_1_method_39_code 49 = .ok (.invokevirtual 284, 3) := by decide +kernel
theorem dX11_held_52 : decode prog_1_method_39_code 52 = .ok (.aload_n 0, 1) := by decide +kernel
theorem dX11_held_53 : decode prog_1_method_39_code 53 = .ok (.getfield 51, 3) := by decide +kernel
theorem dX11_held_56 : decode prog_1_method_39_code 56 = .ok (.iload_n 1, 1) := by decide +kernel
theorem dX11_held_57 : decode prog_1_method_39_code 57 = .ok (.iload_n 2, 1) := by decide +kernel
theorem dX11_held_58 : decode prog_1_method_39_code 58 = .ok (.iload_n 3, 1) := by decide +kernel
theorem dX11_held_59 : decode prog_1_method_39_code 59 = .ok (.invokevirtual 307, 3) := by decide +kernel
theorem dX11_held_62 : decode prog_1_method_39_code 62 = .ok (.ireturn, 1) := by decide +kernel
noncomputable def F_X11_held (v1 : Int) (v2 : Int) (v3 : Int) (v4 : Int) (M : bM) : Option (Int × bM) :=
  b_bind (F_X5_has v1 M) (fun x1 => if x1 = 0 then (some ((-2), M)) else (b_bind (F_X8_has v2 M) (fun x3 => if x3 = 0 then (some ((-2), M)) else (if v3 < 0 then (some ((-2), M)) else (if 27 < v3 then (some ((-2), M)) else (b_bind (F_X11_isDay v4 M) (fun x7 => if x7 = 0 then (some ((-2), M)) else (b_bind (F_X4_know v4 M) (fun M9 => b_bind (F_X4_yearsHeld v1 v2 v3 M9) (fun x10 => some (x10, M9)))))))))))
theorem t_X11_held {l : Launch} {E : bE} {Q : (Int × bM) → Prop} {v1 : Int} {v2 : Int} {v3 : Int} {v4 : Int} {M : bM} (h : b_wp (F_X11_held v1 v2 v3 v4 M) (Q)) : V l E xX11_held (0, 0) 0 [(0, bR 0), (1, bI v1), (2, bI v2), (3, bI v3), (4, bI v4)] [] M (b_pI Q) := by
  unfold F_X11_held at h
  refine v_aload_n (f := 0) 0 rfl dX11_held_0 ?_
  refine v_getR (kf := 2) (kz := 2) rfl kd_0 rfl ⟨by decide, by decide⟩ rfl wf_11_26 dX11_held_1 ?_
  refine v_iload_n (f := 1) 1 rfl dX11_held_4 ?_
  refine v_cVIp (nA := 1) (As := [bI _]) (ix := 146) (cf_X5_has (b_wp_b h)) rfl kd_3 rfl rfl wc_X5_has wm_11_146 wi_X5_has ws_X5_has wn_5 ⟨by decide, by decide, by decide⟩ rfl ⟨by decide, by decide⟩ ⟨by decide, by decide⟩ (Nat.le_of_ble_eq_true rfl) dX11_held_5 (fun x1 h => ?_)
  refine v_if_eq (tgt := 40) dX11_held_8 (by decide) (fun c2 => ?_) (fun c2 => ?_)
  · replace h := b_wp_t c2 h
    refine v_bipush ⟨by decide, by decide⟩ (by decide) dX11_held_40 ?_
    refine v_ireturn rfl dX11_held_42 ⟨by decide, by decide⟩ ?_
    exact ⟨_, rfl, h⟩
  · replace h := b_wp_f c2 h
    refine v_aload_n (f := 0) 0 rfl dX11_held_11 ?_
    refine v_getR (kf := 1) (kz := 1) rfl kd_0 rfl ⟨by decide, by decide⟩ rfl wf_11_19 dX11_held_12 ?_
    refine v_iload_n (f := 2) 2 rfl dX11_held_15 ?_
    refine v_cVIp (nA := 1) (As := [bI _]) (ix := 110) (cf_X8_has (b_wp_b h)) rfl kd_2 rfl rfl wc_X8_has wm_11_110 wi_X8_has ws_X8_has wn_8 ⟨by decide, by decide, by decide⟩ rfl ⟨by decide, by decide⟩ ⟨by decide, by decide⟩ (Nat.le_of_ble_eq_true rfl) dX11_held_16 (fun x3 h => ?_)
    refine v_if_eq (tgt := 40) dX11_held_19 (by decide) (fun c4 => ?_) (fun c4 => ?_)
    · replace h := b_wp_t c4 h
      refine v_bipush ⟨by decide, by decide⟩ (by decide) dX11_held_40 ?_
      refine v_ireturn rfl dX11_held_42 ⟨by decide, by decide⟩ ?_
      exact ⟨_, rfl, h⟩
    · replace h := b_wp_f c4 h
      refine v_iload_n (f := 3) 3 rfl dX11_held_22 ?_
      refine v_if_lt (tgt := 40) dX11_held_23 (by decide) (fun c5 => ?_) (fun c5 => ?_)
      · replace h := b_wp_t c5 h
        refine v_bipush ⟨by decide, by decide⟩ (by decide) dX11_held_40 ?_
        refine v_ireturn rfl dX11_held_42 ⟨by decide, by decide⟩ ?_
        exact ⟨_, rfl, h⟩
      · replace h := b_wp_f c5 h
        refine v_iload_n (f := 3) 3 rfl dX11_held_26 ?_
        refine v_bipush ⟨by decide, by decide⟩ (by decide) dX11_held_27 ?_
        refine v_icmp_gt (tgt := 40) dX11_held_29 (by decide) (fun c6 => ?_) (fun c6 => ?_)
        · replace h := b_wp_t c6 h
          refine v_bipush ⟨by decide, by decide⟩ (by decide) dX11_held_40 ?_
          refine v_ireturn rfl dX11_held_42 ⟨by decide, by decide⟩ ?_
          exact ⟨_, rfl, h⟩
        · replace h := b_wp_f c6 h
          refine v_iload (i := 4) 4 rfl dX11_held_32 ?_
          refine v_cSIp (nA := 1) (As := [bI _]) (ix := 102) (cf_X11_isDay (b_wp_b h)) rfl wc_X11_isDay wm_11_102 wi_X11_isDay wn_11 ⟨by decide, by decide, by decide⟩ rfl ⟨by decide, by decide⟩ ⟨by decide, by decide⟩ (Nat.le_of_ble_eq_true rfl) dX11_held_34 (fun x7 h => ?_)
          refine v_if_ne (tgt := 43) dX11_held_37 (by decide) (fun c8 => ?_) (fun c8 => ?_)
          · replace h := b_wp_f c8 h
            refine v_aload_n (f := 0) 0 rfl dX11_held_43 ?_
            refine v_getR (kf := 5) (kz := 5) rfl kd_0 rfl ⟨by decide, by decide⟩ rfl wf_11_51 dX11_held_44 ?_
            refine v_iload (i := 4) 4 rfl dX11_held_47 ?_
            refine v_cVV (nA := 1) (As := [bI _]) (ix := 284) (cf_X4_know (b_wp_b h)) rfl kd_6 rfl rfl wc_X4_know wm_11_284 wi_X4_know ws_X4_know wn_4 ⟨by decide, by decide, by decide⟩ rfl ⟨by decide, by decide⟩ ⟨by decide, by decide⟩ (Nat.le_of_ble_eq_true rfl) dX11_held_49 (fun M9 h => ?_)
            refine v_aload_n (f := 0) 0 rfl dX11_held_52 ?_
            refine v_getR (kf := 5) (kz := 5) rfl kd_0 rfl ⟨by decide, by decide⟩ rfl wf_11_51 dX11_held_53 ?_
            refine v_iload_n (f := 1) 1 rfl dX11_held_56 ?_
            refine v_iload_n (f := 2) 2 rfl dX11_held_57 ?_
            refine v_iload_n (f := 3) 3 rfl dX11_held_58 ?_
            refine v_cVIp (nA := 3) (As := [bI _, bI _, bI _]) (ix := 307) (cf_X4_yearsHeld (b_wp_b h)) rfl kd_6 rfl rfl wc_X4_yearsHeld wm_11_307 wi_X4_yearsHeld ws_X4_yearsHeld wn_4 ⟨by decide, by decide, by decide⟩ rfl ⟨by decide, by decide⟩ ⟨by decide, by decide⟩ (Nat.le_of_ble_eq_true rfl) dX11_held_59 (fun x10 h => ?_)
            refine v_ireturn rfl dX11_held_62 ⟨by decide, by decide⟩ ?_
            exact ⟨_, rfl, h⟩
          · replace h := b_wp_t c8 h
            refine v_bipush ⟨by decide, by decide⟩ (by decide) dX11_held_40 ?_
            refine v_ireturn rfl dX11_held_42 ⟨by decide, by decide⟩ ?_
            exact ⟨_, rfl, h⟩
theorem cf_X11_held {l : Launch} {E : bE} {M : bM} {v1 : Int} {v2 : Int} {v3 : Int} {v4 : Int} {Q : (Int × bM) → Prop} (h : b_wp (F_X11_held v1 v2 v3 v4 M) Q) : b_C l E xX11_held yX11_held [bR 0, bI v1, bI v2, bI v3, bI v4] M (b_pI Q) := b_met (by decide) ⟨rfl, rfl⟩ (Nat.le_of_ble_eq_true rfl) (fun _ _ => t_X11_held h)
abbrev xX6_add : bX := ("BurntHall$Mortgages", prog_8_method_3_code, 4, (Option.some Jvm.ClassFile.FieldType.int), b_rm 1 0 0, 0, "add")
abbrev yX6_add : MethodName := ⟨"BurntHall$Mortgages", "add", "(III)I"⟩
theorem dX6_add_0 : decode prog_8_method_3_code 0 = .ok (.aload_n 0, 1) := by decide +kernel
theorem dX6_add_1 : decode prog_8_method_3_code 1 = .ok (.getfield 35, 3) := by decide +kernel
theorem dX6_add_4 : decode prog_8_method_3_code 4 = .ok (.bipush 40, 2) := by decide +kernel
theorem dX6_add_6 : decode prog_8_method_3_code 6 = .ok (.if_icmp .lt 6, 3) := by decide +kernel
theorem dX6_add_9 : decode prog_8_method_3_code 9 = .ok (.bipush (-3), 2) := by decide +kernel
theorem dX6_add_11 : decode prog_8_method_3_code 11 = .ok (.ireturn, 1) := by decide +kernel
theorem dX6_add_12 : decode prog_8_method_3_code 12 = .ok (.aload_n 0, 1) := by decide +kernel
theorem dX6_add_13 : decode prog_8_method_3_code 13 = .ok (.getfield 11, 3) := by decide +kernel
theorem dX6_add_16 : decode prog_8_method_3_code 16 = .ok (.aload_n 0, 1) := by decide +kernel
theorem dX6_add_17 : decode prog_8_method_3_code 17 = .ok (.getfield 35, 3) := by decide +kernel
theorem dX6_add_20 : decode prog_8_method_3_code 20 = .ok (.iload_n 1, 1) := by decide +kernel
theorem dX6_add_21 : decode prog_8_method_3_code 21 = .ok (.iastore, 1) := by decide +kernel
theorem dX6_add_22 : decode prog_8_method_3_code 22 = .ok (.aload_n 0, 1) := by decide +kernel
theorem dX6_add_23 : decode prog_8_method_3_code 23 = .ok (.getfield 15, 3) := by decide +kernel
theorem dX6_add_26 : decode prog_8_method_3_code 26 = .ok (.aload_n 0, 1) := by decide +kernel
theorem dX6_add_27 : decode prog_8_method_3_code 27 = .ok (.getfield 35, 3) := by decide +kernel
theorem dX6_add_30 : decode prog_8_method_3_code 30 = .ok (.iload_n 2, 1) := by decide +kernel
theorem dX6_add_31 : decode prog_8_method_3_code 31 = .ok (.iastore, 1) := by decide +kernel
theorem dX6_add_32 : decode prog_8_method_3_code 32 = .ok (.aload_n 0, 1) := by decide +kernel
theorem dX6_add_33 : decode prog_8_method_3_code 33 = .ok (.getfield 18, 3) := by decide +kernel
theorem dX6_add_36 : decode prog_8_method_3_code 36 = .ok (.aload_n 0, 1) := by decide +kernel
theorem dX6_add_37 : decode prog_8_method_3_code 37 = .ok (.getfield 35, 3) := by decide +kernel
theorem dX6_add_40 : decode prog_8_method_3_code 40 = .ok (.iload_n 3, 1) := by decide +kernel
theorem dX6_add_41 : decode prog_8_method_3_code 41 = .ok (.iastore, 1) := by decide +kernel
theorem dX6_add_42 : decode prog_8_method_3_code 42 = .ok (.aload_n 0, 1) := by decide +kernel
theorem dX6_add_43 : decode prog_8_method_3_code 43 = .ok (.getfield 21, 3) := by decide +kernel
theorem dX6_add_46 : decode prog_8_method_3_code 46 = .ok (.aload_n 0, 1) := by decide +kernel
theorem dX6_add_47 : decode prog_8_method_3_code 47 = .ok (.getfield 35, 3) := by decide +kernel
theorem dX6_add_50 : decode prog_8_method_3_code 50 = .ok (.iconst (-1), 1) := by decide +kernel
theorem dX6_add_51 : decode prog_8_method_3_code 51 = .ok (.iastore, 1) := by decide +kernel
theorem dX6_add_52 : decode prog_8_method_3_code 52 = .ok (.aload_n 0, 1) := by decide +kernel
theorem dX6_add_53 : decode prog_8_method_3_code 53 = .ok (.dup, 1) := by decide +kernel
theorem dX6_add_54 : decode prog_8_method_3_code 54 = .ok (.getfield 35, 3) := by decide +kernel
theorem dX6_add_57 : decode prog_8_method_3_code 57 = .ok (.iconst 1, 1) := by decide +kernel
theorem dX6_add_58 : decode prog_8_method_3_code 58 = .ok (.iadd, 1) := by decide +kernel
theorem dX6_add_59 : decode prog_8_method_3_code 59 = .ok (.putfield 35, 3) := by decide +kernel
theorem dX6_add_62 : decode prog_8_method_3_code 62 = .ok (.aload_n 0, 1) := by decide +kernel
theorem dX6_add_63 : decode prog_8_method_3_code 63 = .ok (.getfield 35, 3) := by decide +kernel
theorem dX6_add_66 : decode prog_8_method_3_code 66 = .ok (.iconst 1, 1) := by decide +kernel
theorem dX6_add_67 : decode prog_8_method_3_code 67 = .ok (.isub, 1) := by decide +kernel
theorem dX6_add_68 : decode prog_8_method_3_code 68 = .ok (.ireturn, 1) := by decide +kernel
noncomputable def F_X6_add (v1 : Int) (v2 : Int) (v3 : Int) (M : bM) : Option (Int × bM) :=
  if (M 8 0) < 40 then (b_g (0 ≤ (M 8 0) ∧ (M 8 0) < 40) (b_let (b_up M 142 (M 8 0) v1) (fun M3 => b_g (0 ≤ (M3 8 0) ∧ (M3 8 0) < 40) (b_let (b_up M3 143 (M3 8 0) v2) (fun M5 => b_g (0 ≤ (M5 8 0) ∧ (M5 8 0) < 40) (b_let (b_up M5 144 (M5 8 0) v3) (fun M7 => b_g (0 ≤ (M7 8 0) ∧ (M7 8 0) < 40) (b_let (b_up M7 145 (M7 8 0) (-1)) (fun M9 => b_g (b_i32 ((M9 8 0) + 1)) (b_let (b_up M9 8 0 ((M9 8 0) + 1)) (fun M11 => b_g (b_i32 ((M11 8 0) - 1)) (some (((M11 8 0) - 1), M11))))))))))))) else (some ((-3), M))
theorem t_X6_add {l : Launch} {E : bE} {Q : (Int × bM) → Prop} {v1 : Int} {v2 : Int} {v3 : Int} {M : bM} (h : b_wp (F_X6_add v1 v2 v3 M) (Q)) : V l E xX6_add (0, 0) 0 [(0, bR 8), (1, bI v1), (2, bI v2), (3, bI v3)] [] M (b_pI Q) := by
  unfold F_X6_add at h
  refine v_aload_n (f := 0) 0 rfl dX6_add_0 ?_
  refine v_getI (kf := 0) (kz := 0) rfl kd_8 rfl ⟨by decide, by decide⟩ rfl wf_6_35 dX6_add_1 ?_
  refine v_bipush ⟨by decide, by decide⟩ (by decide) dX6_add_4 ?_
  refine v_icmp_lt (tgt := 12) dX6_add_6 (by decide) (fun c1 => ?_) (fun c1 => ?_)
  · replace h := b_wp_t c1 h
    obtain ⟨g2, h⟩ := b_wp_g h
    refine v_aload_n (f := 0) 0 rfl dX6_add_12 ?_
    refine v_getR (kf := 3) (kz := 3) rfl kd_8 rfl ⟨by decide, by decide⟩ rfl wf_6_11 dX6_add_13 ?_
    refine v_aload_n (f := 0) 0 rfl dX6_add_16 ?_
    refine v_getI (kf := 0) (kz := 0) rfl kd_8 rfl ⟨by decide, by decide⟩ rfl wf_6_35 dX6_add_17 ?_
    refine v_iload_n (f := 1) 1 rfl dX6_add_20 ?_
    refine v_iastore kd_142 g2 (by decide) dX6_add_21 ?_
    replace h := b_wp_l h
    obtain ⟨g4, h⟩ := b_wp_g h
    refine v_aload_n (f := 0) 0 rfl dX6_add_22 ?_
    refine v_getR (kf := 4) (kz := 4) rfl kd_8 rfl ⟨by decide, by decide⟩ rfl wf_6_15 dX6_add_23 ?_
    refine v_aload_n (f := 0) 0 rfl dX6_add_26 ?_
    refine v_getI (kf := 0) (kz := 0) rfl kd_8 rfl ⟨by decide, by decide⟩ rfl wf_6_35 dX6_add_27 ?_
    refine v_iload_n (f := 2) 2 rfl dX6_add_30 ?_
    refine v_iastore kd_143 g4 (by decide) dX6_add_31 ?_
    replace h := b_wp_l h
    obtain ⟨g6, h⟩ := b_wp_g h
    refine v_aload_n (f := 0) 0 rfl dX6_add_32 ?_
    refine v_getR (kf := 5) (kz := 5) rfl kd_8 rfl ⟨by decide, by decide⟩ rfl wf_6_18 dX6_add_33 ?_
    refine v_aload_n (f := 0) 0 rfl dX6_add_36 ?_
    refine v_getI (kf := 0) (kz := 0) rfl kd_8 rfl ⟨by decide, by decide⟩ rfl wf_6_35 dX6_add_37 ?_
    refine v_iload_n (f := 3) 3 rfl dX6_add_40 ?_
    refine v_iastore kd_144 g6 (by decide) dX6_add_41 ?_
    replace h := b_wp_l h
    obtain ⟨g8, h⟩ := b_wp_g h
    refine v_aload_n (f := 0) 0 rfl dX6_add_42 ?_
    refine v_getR (kf := 6) (kz := 6) rfl kd_8 rfl ⟨by decide, by decide⟩ rfl wf_6_21 dX6_add_43 ?_
    refine v_aload_n (f := 0) 0 rfl dX6_add_46 ?_
    refine v_getI (kf := 0) (kz := 0) rfl kd_8 rfl ⟨by decide, by decide⟩ rfl wf_6_35 dX6_add_47 ?_
    refine v_iconst ⟨by decide, by decide⟩ dX6_add_50 ?_
    refine v_iastore kd_145 g8 (by decide) dX6_add_51 ?_
    replace h := b_wp_l h
    obtain ⟨g10, h⟩ := b_wp_g h
    refine v_aload_n (f := 0) 0 rfl dX6_add_52 ?_
    refine v_dup rfl dX6_add_53 ?_
    refine v_getI (kf := 0) (kz := 0) rfl kd_8 rfl ⟨by decide, by decide⟩ rfl wf_6_35 dX6_add_54 ?_
    refine v_iconst ⟨by decide, by decide⟩ dX6_add_57 ?_
    refine v_iaddN g10 dX6_add_58 ?_
    refine v_putI (kf := 0) (kz := 0) rfl kd_8 rfl ⟨by decide, by decide⟩ rfl wf_6_35 rfl rfl dX6_add_59 ?_
    replace h := b_wp_l h
    obtain ⟨g12, h⟩ := b_wp_g h
    refine v_aload_n (f := 0) 0 rfl dX6_add_62 ?_
    refine v_getI (kf := 0) (kz := 0) rfl kd_8 rfl ⟨by decide, by decide⟩ rfl wf_6_35 dX6_add_63 ?_
    refine v_iconst ⟨by decide, by decide⟩ dX6_add_66 ?_
    refine v_isubN g12 dX6_add_67 ?_
    refine v_ireturn rfl dX6_add_68 ⟨by decide, by decide⟩ ?_
    exact ⟨_, rfl, h⟩
  · replace h := b_wp_f c1 h
    refine v_bipush ⟨by decide, by decide⟩ (by decide) dX6_add_9 ?_
    refine v_ireturn rfl dX6_add_11 ⟨by decide, by decide⟩ ?_
    exact ⟨_, rfl, h⟩
theorem cf_X6_add {l : Launch} {E : bE} {M : bM} {v1 : Int} {v2 : Int} {v3 : Int} {Q : (Int × bM) → Prop} (h : b_wp (F_X6_add v1 v2 v3 M) Q) : b_C l E xX6_add yX6_add [bR 8, bI v1, bI v2, bI v3] M (b_pI Q) := b_met (by decide) ⟨rfl, rfl⟩ (Nat.le_of_ble_eq_true rfl) (fun _ _ => t_X6_add h)
abbrev xX11_mortgage : bX := ("BurntHall", prog_1_method_40_code, 6, (Option.some Jvm.ClassFile.FieldType.int), b_rm 2 0 0, 0, "mortgage")
abbrev yX11_mortgage : MethodName := ⟨"BurntHall", "mortgage", "(IIIII)I"⟩
theorem dX11_mortgage_0 : decode prog_1_method_40_code 0 = .ok (.aload_n 0, 1) := by decide +kernel
theorem dX11_mortgage_1 : decode prog_1_method_40_code 1 = .ok (.getfield 26, 3) := by decide +kernel
theorem dX11_mortgage_4 : decode prog_1_method_40_code 4 = .ok (.iload_n 1, 1) := by decide +kernel
theorem dX11_mortgage_5 : decode prog_1_method_40_code 5 = .ok (.invokevirtual 146, 3) := by decide +kernel
theorem dX11_mortgage_8 : decode prog_1_method_40_code 8 = .ok (.ifCond .eq 49, 3) := by decide +kernel
theorem dX11_mortgage_11 : decode prog_1_method_40_code 11 = .ok (.aload_n 0, 1) := by decide +kernel
theorem dX11_mortgage_12 : decode prog_1_method_40_code 12 = .ok (.getfield 19, 3) := by decide +kernel
theorem dX11_mortgage_15 : decode prog_1_method_40_code 15 = .ok (.iload_n 2, 1) := by decide +kernel
theorem dX11_mortgage_16 : decode prog_1_method_40_code 16 = .ok (.invokevirtual 110, 3) := by decide +kernel
theorem dX11_mortgage_19 : decode prog_1_method_40_code 19 = .ok (.ifCond .eq 38, 3) := by decide +kernel
theorem dX11_mortgage_22 : decode prog_1_method_40_code 22 = .ok (.iload_n 3, 1) := by decide +kernel
theorem dX11_mortgage_23 : decode prog_1_method_40_code 23 = .ok (.iconst 1, 1) := by decide +kernel
theorem dX11_mortgage_24 : decode prog_1_method_40_code 24 = .ok (.if_icmp .lt 33, 3) := by decide +kernel
theorem dX11_mortgage_27 : decode prog_1_method_40_code 27 = .ok (.iload_n 3, 1) := by decide +kernel
theorem dX11_mortgage_28 : decode prog_1_method_40_code 28 = .ok (.ldc_w 310, 3) := by decide +kernel
theorem dX11_mortgage_31 : decode prog_1_method_40_code 31 = .ok (.if_icmp .gt 26, 3) := by decide +kernel
theorem dX11_mortgage_34 : decode prog_1_method_40_code 34 = .ok (.iload 4, 2) := by decide +kernel
theorem dX11_mortgage_36 : decode prog_1_method_40_code 36 = .ok (.invokestatic 102, 3) := by decide +kernel
theorem dX11_mortgage_39 : decode prog_1_method_40_code 39 = .ok (.ifCond .eq 18, 3) := by decide +kernel
theorem dX11_mortgage_42 : decode prog_1_method_40_code 42 = .ok (.iload 5, 2) := by decide +kernel
theorem dX11_mortgage_44 : decode prog_1_method_40_code 44 = .ok (.invokestatic 102, 3) := by decide +kernel
theorem dX11_mortgage_47 : decode prog_1_method_40_code 47 = .ok (.ifCond .eq 10, 3) := by decide +kernel
theorem dX11_mortgage_50 : decode prog_1_method_40_code 50 = .ok (.iload 5, 2) := by decide +kernel
theorem dX11_mortgage_52 : decode prog_1_method_40_code 52 = .ok (.iload 4, 2) := by decide +kernel
theorem dX11_mortgage_54 : decode prog_1_method_40_code 54 = .ok (.if_icmp .ge 6, 3) := by decide +kernel
theorem dX11_mortgage_57 : decode prog_1_method_40_code 57 = .ok (.bipush (-2), 2) := by decide +kernel
theorem dX11_mortgage_59 : decode prog_1_method_40_code 59 = .ok (.ireturn, 1) := by decide +kernel
theorem dX11_mortgage_60 : decode prog_1_method_40_code 60 = .ok (.aload_n 0, 1) := by decide +kernel
theorem dX11_mortgage_61 : decode prog_1_method_40_code 61 = .ok (.getfield 69, 3) := by decide +kernel
theorem dX11_mortgage_64 : decode prog_1_method_40_code 64 = .ok (.iload_n 1, 1) := by decide +kernel
theorem dX11_mortgage_65 : decode prog_1_method_40_code 65 = .ok (.iload 4, 2) := by decide +kernel
theorem dX11_mortgage_67 : decode prog_1_method_40_code 67 = .ok (.iload 5, 2) := by decide +kernel
theorem dX11_mortgage_69 : decode prog_1_method_40_code 69 = .ok (.invokevirtual 311, 3) := by decide +kernel
theorem dX11_mortgage_72 : decode prog_1_method_40_code 72 = .ok (.ireturn, 1) := by decide +kernel
noncomputable def F_X11_mortgage (v1 : Int) (v2 : Int) (v3 : Int) (v4 : Int) (v5 : Int) (M : bM) : Option (Int × bM) :=
  b_bind (F_X5_has v1 M) (fun x1 => if x1 = 0 then (some ((-2), M)) else (b_bind (F_X8_has v2 M) (fun x3 => if x3 = 0 then (some ((-2), M)) else (if v3 < 1 then (some ((-2), M)) else (if 99999 < v3 then (some ((-2), M)) else (b_bind (F_X11_isDay v4 M) (fun x7 => if x7 = 0 then (some ((-2), M)) else (b_bind (F_X11_isDay v5 M) (fun x9 => if x9 = 0 then (some ((-2), M)) else (if v4 ≤ v5 then (b_bind (F_X6_add v1 v4 v5 M) (fun t => b_two t (fun x12 M13 => some (x12, M13)))) else (some ((-2), M))))))))))))
theorem t_X11_mortgage {l : Launch} {E : bE} {Q : (Int × bM) → Prop} {v1 : Int} {v2 : Int} {v3 : Int} {v4 : Int} {v5 : Int} {M : bM} (h : b_wp (F_X11_mortgage v1 v2 v3 v4 v5 M) (Q)) : V l E xX11_mortgage (0, 0) 0 [(0, bR 0), (1, bI v1), (2, bI v2), (3, bI v3), (4, bI v4), (5, bI v5)] [] M (b_pI Q) := by
  unfold F_X11_mortgage at h
  refine v_aload_n (f := 0) 0 rfl dX11_mortgage_0 ?_
  refine v_getR (kf := 2) (kz := 2) rfl kd_0 rfl ⟨by decide, by decide⟩ rfl wf_11_26 dX11_mortgage_1 ?_
  refine v_iload_n (f := 1) 1 rfl dX11_mortgage_4 ?_
  refine v_cVIp (nA := 1) (As := [bI _]) (ix := 146) (cf_X5_has (b_wp_b h)) rfl kd_3 rfl rfl wc_X5_has wm_11_146 wi_X5_has ws_X5_has wn_5 ⟨by decide, by decide, by decide⟩ rfl ⟨by decide, by decide⟩ ⟨by decide, by decide⟩ (Nat.le_of_ble_eq_true rfl) dX11_mortgage_5 (fun x1 h => ?_)
  refine v_if_eq (tgt := 57) dX11_mortgage_8 (by decide) (fun c2 => ?_) (fun c2 => ?_)
  · replace h := b_wp_t c2 h
    refine v_bipush ⟨by decide, by decide⟩ (by decide) dX11_mortgage_57 ?_
    refine v_ireturn rfl dX11_mortgage_59 ⟨by decide, by decide⟩ ?_
    exact ⟨_, rfl, h⟩
  · replace h := b_wp_f c2 h
    refine v_aload_n (f := 0) 0 rfl dX11_mortgage_11 ?_
    refine v_getR (kf := 1) (kz := 1) rfl kd_0 rfl ⟨by decide, by decide⟩ rfl wf_11_19 dX11_mortgage_12 ?_
    refine v_iload_n (f := 2) 2 rfl dX11_mortgage_15 ?_
    refine v_cVIp (nA := 1) (As := [bI _]) (ix := 110) (cf_X8_has (b_wp_b h)) rfl kd_2 rfl rfl wc_X8_has wm_11_110 wi_X8_has ws_X8_has wn_8 ⟨by decide, by decide, by decide⟩ rfl ⟨by decide, by decide⟩ ⟨by decide, by decide⟩ (Nat.le_of_ble_eq_true rfl) dX11_mortgage_16 (fun x3 h => ?_)
    refine v_if_eq (tgt := 57) dX11_mortgage_19 (by decide) (fun c4 => ?_) (fun c4 => ?_)
    · replace h := b_wp_t c4 h
      refine v_bipush ⟨by decide, by decide⟩ (by decide) dX11_mortgage_57 ?_
      refine v_ireturn rfl dX11_mortgage_59 ⟨by decide, by decide⟩ ?_
      exact ⟨_, rfl, h⟩
    · replace h := b_wp_f c4 h
      refine v_iload_n (f := 3) 3 rfl dX11_mortgage_22 ?_
      refine v_iconst ⟨by decide, by decide⟩ dX11_mortgage_23 ?_
      refine v_icmp_lt (tgt := 57) dX11_mortgage_24 (by decide) (fun c5 => ?_) (fun c5 => ?_)
      · replace h := b_wp_t c5 h
        refine v_bipush ⟨by decide, by decide⟩ (by decide) dX11_mortgage_57 ?_
        refine v_ireturn rfl dX11_mortgage_59 ⟨by decide, by decide⟩ ?_
        exact ⟨_, rfl, h⟩
      · replace h := b_wp_f c5 h
        refine v_iload_n (f := 3) 3 rfl dX11_mortgage_27 ?_
        refine v_ldcw (n := 99999) ⟨by decide, by decide⟩ wk_11_310 dX11_mortgage_28 ?_
        refine v_icmp_gt (tgt := 57) dX11_mortgage_31 (by decide) (fun c6 => ?_) (fun c6 => ?_)
        · replace h := b_wp_t c6 h
          refine v_bipush ⟨by decide, by decide⟩ (by decide) dX11_mortgage_57 ?_
          refine v_ireturn rfl dX11_mortgage_59 ⟨by decide, by decide⟩ ?_
          exact ⟨_, rfl, h⟩
        · replace h := b_wp_f c6 h
          refine v_iload (i := 4) 4 rfl dX11_mortgage_34 ?_
          refine v_cSIp (nA := 1) (As := [bI _]) (ix := 102) (cf_X11_isDay (b_wp_b h)) rfl wc_X11_isDay wm_11_102 wi_X11_isDay wn_11 ⟨by decide, by decide, by decide⟩ rfl ⟨by decide, by decide⟩ ⟨by decide, by decide⟩ (Nat.le_of_ble_eq_true rfl) dX11_mortgage_36 (fun x7 h => ?_)
          refine v_if_eq (tgt := 57) dX11_mortgage_39 (by decide) (fun c8 => ?_) (fun c8 => ?_)
          · replace h := b_wp_t c8 h
            refine v_bipush ⟨by decide, by decide⟩ (by decide) dX11_mortgage_57 ?_
            refine v_ireturn rfl dX11_mortgage_59 ⟨by decide, by decide⟩ ?_
            exact ⟨_, rfl, h⟩
          · replace h := b_wp_f c8 h
            refine v_iload (i := 5) 5 rfl dX11_mortgage_42 ?_
            refine v_cSIp (nA := 1) (As := [bI _]) (ix := 102) (cf_X11_isDay (b_wp_b h)) rfl wc_X11_isDay wm_11_102 wi_X11_isDay wn_11 ⟨by decide, by decide, by decide⟩ rfl ⟨by decide, by decide⟩ ⟨by decide, by decide⟩ (Nat.le_of_ble_eq_true rfl) dX11_mortgage_44 (fun x9 h => ?_)
            refine v_if_eq (tgt := 57) dX11_mortgage_47 (by decide) (fun c10 => ?_) (fun c10 => ?_)
            · replace h := b_wp_t c10 h
              refine v_bipush ⟨by decide, by decide⟩ (by decide) dX11_mortgage_57 ?_
              refine v_ireturn rfl dX11_mortgage_59 ⟨by decide, by decide⟩ ?_
              exact ⟨_, rfl, h⟩
            · replace h := b_wp_f c10 h
              refine v_iload (i := 5) 5 rfl dX11_mortgage_50 ?_
              refine v_iload (i := 4) 4 rfl dX11_mortgage_52 ?_
              refine v_icmp_ge (tgt := 60) dX11_mortgage_54 (by decide) (fun c11 => ?_) (fun c11 => ?_)
              · replace h := b_wp_t c11 h
                refine v_aload_n (f := 0) 0 rfl dX11_mortgage_60 ?_
                refine v_getR (kf := 7) (kz := 7) rfl kd_0 rfl ⟨by decide, by decide⟩ rfl wf_11_69 dX11_mortgage_61 ?_
                refine v_iload_n (f := 1) 1 rfl dX11_mortgage_64 ?_
                refine v_iload (i := 4) 4 rfl dX11_mortgage_65 ?_
                refine v_iload (i := 5) 5 rfl dX11_mortgage_67 ?_
                refine v_cVI (nA := 3) (As := [bI _, bI _, bI _]) (ix := 311) (cf_X6_add (b_wp_b h)) rfl kd_8 rfl rfl wc_X6_add wm_11_311 wi_X6_add ws_X6_add wn_6 ⟨by decide, by decide, by decide⟩ rfl ⟨by decide, by decide⟩ ⟨by decide, by decide⟩ (Nat.le_of_ble_eq_true rfl) dX11_mortgage_69 (fun x12 M13 h => ?_)
                replace h := b_wp_two h
                refine v_ireturn rfl dX11_mortgage_72 ⟨by decide, by decide⟩ ?_
                exact ⟨_, rfl, h⟩
              · replace h := b_wp_f c11 h
                refine v_bipush ⟨by decide, by decide⟩ (by decide) dX11_mortgage_57 ?_
                refine v_ireturn rfl dX11_mortgage_59 ⟨by decide, by decide⟩ ?_
                exact ⟨_, rfl, h⟩
theorem cf_X11_mortgage {l : Launch} {E : bE} {M : bM} {v1 : Int} {v2 : Int} {v3 : Int} {v4 : Int} {v5 : Int} {Q : (Int × bM) → Prop} (h : b_wp (F_X11_mortgage v1 v2 v3 v4 v5 M) Q) : b_C l E xX11_mortgage yX11_mortgage [bR 0, bI v1, bI v2, bI v3, bI v4, bI v5] M (b_pI Q) := b_met (by decide) ⟨rfl, rfl⟩ (Nat.le_of_ble_eq_true rfl) (fun _ _ => t_X11_mortgage h)
abbrev xX6_has : bX := ("BurntHall$Mortgages", prog_8_method_2_code, 2, (Option.some Jvm.ClassFile.FieldType.boolean), b_rm 1 0 0, 0, "has")
abbrev yX6_has : MethodName := ⟨"BurntHall$Mortgages", "has", "(I)Z"⟩
theorem dX6_has_0 : decode prog_8_method_2_code 0 = .ok (.iload_n 1, 1) := by decide +kernel
theorem dX6_has_1 : decode prog_8_method_2_code 1 = .ok (.ifCond .lt 15, 3) := by decide +kernel
theorem dX6_has_4 : decode prog_8_method_2_code 4 = .ok (.iload_n 1, 1) := by decide +kernel
theorem dX6_has_5 : decode prog_8_method_2_code 5 = .ok (.aload_n 0, 1) := by decide +kernel
theorem dX6_has_6 : decode prog_8_method_2_code 6 = .ok (.getfield 35, 3) := by decide +kernel
theorem dX6_has_9 : decode prog_8_method_2_code 9 = .ok (.if_icmp .ge 7, 3) := by decide +kernel
theorem dX6_has_12 : decode prog_8_method_2_code 12 = .ok (.iconst 1, 1) := by decide +kernel
theorem dX6_has_13 : decode prog_8_method_2_code 13 = .ok (.goto 4, 3) := by decide +kernel
theorem dX6_has_16 : decode prog_8_method_2_code 16 = .ok (.iconst 0, 1) := by decide +kernel
theorem dX6_has_17 : decode prog_8_method_2_code 17 = .ok (.ireturn, 1) := by decide +kernel
noncomputable def F_X6_has (v1 : Int) (M : bM) : Option (Int) :=
  if v1 < 0 then (some 0) else (if (M 8 0) ≤ v1 then (some 0) else (some 1))
theorem t_X6_has {l : Launch} {E : bE} {Q : Int → Prop} {v1 : Int} {M : bM} (h : b_wp (F_X6_has v1 M) (Q)) : V l E xX6_has (0, 0) 0 [(0, bR 8), (1, bI v1)] [] M (b_pIp M Q) := by
  unfold F_X6_has at h
  refine v_iload_n (f := 1) 1 rfl dX6_has_0 ?_
  refine v_if_lt (tgt := 16) dX6_has_1 (by decide) (fun c1 => ?_) (fun c1 => ?_)
  · replace h := b_wp_t c1 h
    refine v_iconst ⟨by decide, by decide⟩ dX6_has_16 ?_
    refine v_zreturn rfl (Or.inl rfl) dX6_has_17 ⟨by decide, by decide⟩ ?_
    exact ⟨_, rfl, rfl, h⟩
  · replace h := b_wp_f c1 h
    refine v_iload_n (f := 1) 1 rfl dX6_has_4 ?_
    refine v_aload_n (f := 0) 0 rfl dX6_has_5 ?_
    refine v_getI (kf := 0) (kz := 0) rfl kd_8 rfl ⟨by decide, by decide⟩ rfl wf_6_35 dX6_has_6 ?_
    refine v_icmp_ge (tgt := 16) dX6_has_9 (by decide) (fun c2 => ?_) (fun c2 => ?_)
    · replace h := b_wp_t c2 h
      refine v_iconst ⟨by decide, by decide⟩ dX6_has_16 ?_
      refine v_zreturn rfl (Or.inl rfl) dX6_has_17 ⟨by decide, by decide⟩ ?_
      exact ⟨_, rfl, rfl, h⟩
    · replace h := b_wp_f c2 h
      refine v_iconst ⟨by decide, by decide⟩ dX6_has_12 ?_
      refine v_goto (tgt := 17) dX6_has_13 (by decide) ?_
      refine v_zreturn rfl (Or.inr rfl) dX6_has_17 ⟨by decide, by decide⟩ ?_
      exact ⟨_, rfl, rfl, h⟩
theorem cf_X6_has {l : Launch} {E : bE} {M : bM} {v1 : Int} {Q : Int → Prop} (h : b_wp (F_X6_has v1 M) Q) : b_C l E xX6_has yX6_has [bR 8, bI v1] M (b_pIp M Q) := b_met (by decide) ⟨rfl, rfl⟩ (Nat.le_of_ble_eq_true rfl) (fun _ _ => t_X6_has h)
abbrev xX6_pay : bX := ("BurntHall$Mortgages", prog_8_method_4_code, 4, (Option.some Jvm.ClassFile.FieldType.int), b_rm 1 0 0, 0, "pay")
abbrev yX6_pay : MethodName := ⟨"BurntHall$Mortgages", "pay", "(III)I"⟩
theorem dX6_pay_0 : decode prog_8_method_4_code 0 = .ok (.aload_n 0, 1) := by decide +kernel
theorem dX6_pay_1 : decode prog_8_method_4_code 1 = .ok (.getfield 21, 3) := by decide +kernel
theorem dX6_pay_4 : decode prog_8_method_4_code 4 = .ok (.iload_n 1, 1) := by decide +kernel
theorem dX6_pay_5 : decode prog_8_method_4_code 5 = .ok (.iaload, 1) := by decide +kernel
theorem dX6_pay_6 : decode prog_8_method_4_code 6 = .ok (.iconst (-1), 1) := by decide +kernel
theorem dX6_pay_7 : decode prog_8_method_4_code 7 = .ok (.if_icmp .eq 6, 3) := by decide +kernel
theorem dX6_pay_10 : decode prog_8_method_4_code 10 = .ok (.bipush (-4), 2) := by decide +kernel
theorem dX6_pay_12 : decode prog_8_method_4_code 12 = .ok (.ireturn, 1) := by decide +kernel
theorem dX6_pay_13 : decode prog_8_method_4_code 13 = .ok (.aload_n 0, 1) := by decide +kernel
theorem dX6_pay_14 : decode prog_8_method_4_code 14 = .ok (.getfield 21, 3) := by decide +kernel
theorem dX6_pay_17 : decode prog_8_method_4_code 17 = .ok (.iload_n 1, 1) := by decide +kernel
theorem dX6_pay_18 : decode prog_8_method_4_code 18 = .ok (.iload_n 2, 1) := by decide +kernel
theorem dX6_pay_19 : decode prog_8_method_4_code 19 = .ok (.iastore, 1) := by decide +kernel
theorem dX6_pay_20 : decode prog_8_method_4_code 20 = .ok (.aload_n 0, 1) := by decide +kernel
theorem dX6_pay_21 : decode prog_8_method_4_code 21 = .ok (.getfield 24, 3) := by decide +kernel
theorem dX6_pay_24 : decode prog_8_method_4_code 24 = .ok (.iload_n 1, 1) := by decide +kernel
theorem dX6_pay_25 : decode prog_8_method_4_code 25 = .ok (.iload_n 3, 1) := by decide +kernel
theorem dX6_pay_26 : decode prog_8_method_4_code 26 = .ok (.iastore, 1) := by decide +kernel
theorem dX6_pay_27 : decode prog_8_method_4_code 27 = .ok (.iconst 1, 1) := by decide +kernel
theorem dX6_pay_28 : decode prog_8_method_4_code 28 = .ok (.ireturn, 1) := by decide +kernel
noncomputable def F_X6_pay (v1 : Int) (v2 : Int) (v3 : Int) (M : bM) : Option (Int × bM) :=
  b_g (0 ≤ v1 ∧ v1 < 40) (if (M 145 v1) = (-1) then (b_g (0 ≤ v1 ∧ v1 < 40) (b_let (b_up M 145 v1 v2) (fun M4 => b_g (0 ≤ v1 ∧ v1 < 40) (b_let (b_up M4 146 v1 v3) (fun M6 => some (1, M6)))))) else (some ((-4), M)))
theorem t_X6_pay {l : Launch} {E : bE} {Q : (Int × bM) → Prop} {v1 : Int} {v2 : Int} {v3 : Int} {M : bM} (h : b_wp (F_X6_pay v1 v2 v3 M) (Q)) : V l E xX6_pay (0, 0) 0 [(0, bR 8), (1, bI v1), (2, bI v2), (3, bI v3)] [] M (b_pI Q) := by
  unfold F_X6_pay at h
  obtain ⟨g1, h⟩ := b_wp_g h
  refine v_aload_n (f := 0) 0 rfl dX6_pay_0 ?_
  refine v_getR (kf := 6) (kz := 6) rfl kd_8 rfl ⟨by decide, by decide⟩ rfl wf_6_21 dX6_pay_1 ?_
  refine v_iload_n (f := 1) 1 rfl dX6_pay_4 ?_
  refine v_iaload kd_145 g1 (by decide) dX6_pay_5 ?_
  refine v_iconst ⟨by decide, by decide⟩ dX6_pay_6 ?_
  refine v_icmp_eq (tgt := 13) dX6_pay_7 (by decide) (fun c2 => ?_) (fun c2 => ?_)
  · replace h := b_wp_t c2 h
    obtain ⟨g3, h⟩ := b_wp_g h
    refine v_aload_n (f := 0) 0 rfl dX6_pay_13 ?_
    refine v_getR (kf := 6) (kz := 6) rfl kd_8 rfl ⟨by decide, by decide⟩ rfl wf_6_21 dX6_pay_14 ?_
    refine v_iload_n (f := 1) 1 rfl dX6_pay_17 ?_
    refine v_iload_n (f := 2) 2 rfl dX6_pay_18 ?_
    refine v_iastore kd_145 g3 (by decide) dX6_pay_19 ?_
    replace h := b_wp_l h
    obtain ⟨g5, h⟩ := b_wp_g h
    refine v_aload_n (f := 0) 0 rfl dX6_pay_20 ?_
    refine v_getR (kf := 7) (kz := 7) rfl kd_8 rfl ⟨by decide, by decide⟩ rfl wf_6_24 dX6_pay_21 ?_
    refine v_iload_n (f := 1) 1 rfl dX6_pay_24 ?_
    refine v_iload_n (f := 3) 3 rfl dX6_pay_25 ?_
    refine v_iastore kd_146 g5 (by decide) dX6_pay_26 ?_
    replace h := b_wp_l h
    refine v_iconst ⟨by decide, by decide⟩ dX6_pay_27 ?_
    refine v_ireturn rfl dX6_pay_28 ⟨by decide, by decide⟩ ?_
    exact ⟨_, rfl, h⟩
  · replace h := b_wp_f c2 h
    refine v_bipush ⟨by decide, by decide⟩ (by decide) dX6_pay_10 ?_
    refine v_ireturn rfl dX6_pay_12 ⟨by decide, by decide⟩ ?_
    exact ⟨_, rfl, h⟩
theorem cf_X6_pay {l : Launch} {E : bE} {M : bM} {v1 : Int} {v2 : Int} {v3 : Int} {Q : (Int × bM) → Prop} (h : b_wp (F_X6_pay v1 v2 v3 M) Q) : b_C l E xX6_pay yX6_pay [bR 8, bI v1, bI v2, bI v3] M (b_pI Q) := b_met (by decide) ⟨rfl, rfl⟩ (Nat.le_of_ble_eq_true rfl) (fun _ _ => t_X6_pay h)
abbrev xX11_paid : bX := ("BurntHall", prog_1_method_41_code, 3, (Option.some Jvm.ClassFile.FieldType.int), b_rm 2 0 0, 0, "paid")
abbrev yX11_paid : MethodName := ⟨"BurntHall", "paid", "(II)I"⟩
theorem dX11_paid_0 : decode prog_1_method_41_code 0 = .ok (.aload_n 0, 1) := by decide +kernel
theorem dX11_paid_1 : decode prog_1_method_41_code 1 = .ok (.getfield 69, 3) := by decide +kernel
theorem dX11_paid_4 : decode prog_1_method_41_code 4 = .ok (.iload_n 1, 1) := by decide +kernel
theorem dX11_paid_5 : decode prog_1_method_41_code 5 = .ok (.invokevirtual 312, 3) := by decide +kernel
theorem dX11_paid_8 : decode prog_1_method_41_code 8 = .ok (.ifCond .eq 10, 3) := by decide +kernel
theorem dX11_paid_11 : decode prog_1_method_41_code 11 = .ok (.iload_n 2, 1) := by decide +kernel
theorem dX11_paid_12 : decode prog_1_method_41_code 12 = .ok (.invokestatic 102, 3) := by decide +kernel
theorem dX11_paid_15 : decode prog_1_method_41_code 15 = .ok (.ifCond .ne 6, 3) := by decide +kernel
theorem dX11_paid_18 : decode prog_1_method_41_code 18 = .ok (.bipush (-2), 2) := by decide +kernel
theorem dX11_paid_20 : decode prog_1_method_41_code 20 = .ok (.ireturn, 1) := by decide +kernel
theorem dX11_paid_21 : decode prog_1_method_41_code 21 = .ok (.aload_n 0, 1) := by decide +kernel
theorem dX11_paid_22 : decode prog_1_method_41_code 22 = .ok (.getfield 69, 3) := by decide +kernel
theorem dX11_paid_25 : decode prog_1_method_41_code 25 = .ok (.iload_n 1, 1) := by decide +kernel
theorem dX11_paid_26 : decode prog_1_method_41_code 26 = .ok (.iload_n 2, 1) := by decide +kernel
theorem dX11_paid_27 : decode prog_1_method_41_code 27 = .ok (.aload_n 0, 1) := by decide +kernel
theorem dX11_paid_28 : decode prog_1_method_41_code 28 = .ok (.getfield 91, 3) := by decide +kernel
theorem dX11_paid_31 : decode prog_1_method_41_code 31 = .ok (.invokevirtual 313, 3) := by decide +kernel
theorem dX11_paid_34 : decode prog_1_method_41_code 34 = .ok (.ireturn, 1) := by decide +kernel
noncomputable def F_X11_paid (v1 : Int) (v2 : Int) (M : bM) : Option (Int × bM) :=
  b_bind (F_X6_has v1 M) (fun x1 => if x1 = 0 then (some ((-2), M)) else (b_bind (F_X11_isDay v2 M) (fun x3 => if x3 = 0 then (some ((-2), M)) else (b_bind (F_X6_pay v1 v2 (M 0 10) M) (fun t => b_two t (fun x5 M6 => some (x5, M6)))))))
theorem t_X11_paid {l : Launch} {E : bE} {Q : (Int × bM) → Prop} {v1 : Int} {v2 : Int} {M : bM} (h : b_wp (F_X11_paid v1 v2 M) (Q)) : V l E xX11_paid (0, 0) 0 [(0, bR 0), (1, bI v1), (2, bI v2)] [] M (b_pI Q) := by
  unfold F_X11_paid at h
  refine v_aload_n (f := 0) 0 rfl dX11_paid_0 ?_
  refine v_getR (kf := 7) (kz := 7) rfl kd_0 rfl ⟨by decide, by decide⟩ rfl wf_11_69 dX11_paid_1 ?_
  refine v_iload_n (f := 1) 1 rfl dX11_paid_4 ?_
  refine v_cVIp (nA := 1) (As := [bI _]) (ix := 312) (cf_X6_has (b_wp_b h)) rfl kd_8 rfl rfl wc_X6_has wm_11_312 wi_X6_has ws_X6_has wn_6 ⟨by decide, by decide, by decide⟩ rfl ⟨by decide, by decide⟩ ⟨by decide, by decide⟩ (Nat.le_of_ble_eq_true rfl) dX11_paid_5 (fun x1 h => ?_)
  refine v_if_eq (tgt := 18) dX11_paid_8 (by decide) (fun c2 => ?_) (fun c2 => ?_)
  · replace h := b_wp_t c2 h
    refine v_bipush ⟨by decide, by decide⟩ (by decide) dX11_paid_18 ?_
    refine v_ireturn rfl dX11_paid_20 ⟨by decide, by decide⟩ ?_
    exact ⟨_, rfl, h⟩
  · replace h := b_wp_f c2 h
    refine v_iload_n (f := 2) 2 rfl dX11_paid_11 ?_
    refine v_cSIp (nA := 1) (As := [bI _]) (ix := 102) (cf_X11_isDay (b_wp_b h)) rfl wc_X11_isDay wm_11_102 wi_X11_isDay wn_11 ⟨by decide, by decide, by decide⟩ rfl ⟨by decide, by decide⟩ ⟨by decide, by decide⟩ (Nat.le_of_ble_eq_true rfl) dX11_paid_12 (fun x3 h => ?_)
    refine v_if_ne (tgt := 21) dX11_paid_15 (by decide) (fun c4 => ?_) (fun c4 => ?_)
    · replace h := b_wp_f c4 h
      refine v_aload_n (f := 0) 0 rfl dX11_paid_21 ?_
      refine v_getR (kf := 7) (kz := 7) rfl kd_0 rfl ⟨by decide, by decide⟩ rfl wf_11_69 dX11_paid_22 ?_
      refine v_iload_n (f := 1) 1 rfl dX11_paid_25 ?_
      refine v_iload_n (f := 2) 2 rfl dX11_paid_26 ?_
      refine v_aload_n (f := 0) 0 rfl dX11_paid_27 ?_
      refine v_getI (kf := 10) (kz := 10) rfl kd_0 rfl ⟨by decide, by decide⟩ rfl wf_11_91 dX11_paid_28 ?_
      refine v_cVI (nA := 3) (As := [bI _, bI _, bI _]) (ix := 313) (cf_X6_pay (b_wp_b h)) rfl kd_8 rfl rfl wc_X6_pay wm_11_313 wi_X6_pay ws_X6_pay wn_6 ⟨by decide, by decide, by decide⟩ rfl ⟨by decide, by decide⟩ ⟨by decide, by decide⟩ (Nat.le_of_ble_eq_true rfl) dX11_paid_31 (fun x5 M6 h => ?_)
      replace h := b_wp_two h
      refine v_ireturn rfl dX11_paid_34 ⟨by decide, by decide⟩ ?_
      exact ⟨_, rfl, h⟩
    · replace h := b_wp_t c4 h
      refine v_bipush ⟨by decide, by decide⟩ (by decide) dX11_paid_18 ?_
      refine v_ireturn rfl dX11_paid_20 ⟨by decide, by decide⟩ ?_
      exact ⟨_, rfl, h⟩
theorem cf_X11_paid {l : Launch} {E : bE} {M : bM} {v1 : Int} {v2 : Int} {Q : (Int × bM) → Prop} (h : b_wp (F_X11_paid v1 v2 M) Q) : b_C l E xX11_paid yX11_paid [bR 0, bI v1, bI v2] M (b_pI Q) := b_met (by decide) ⟨rfl, rfl⟩ (Nat.le_of_ble_eq_true rfl) (fun _ _ => t_X11_paid h)
abbrev xX6_isStanding : bX := ("BurntHall$Mortgages", prog_8_method_5_code, 6, (Option.some Jvm.ClassFile.FieldType.boolean), b_rm 3 0 0, 0, "isStanding")
abbrev yX6_isStanding : MethodName := ⟨"BurntHall$Mortgages", "isStanding", "(III)Z"⟩
theorem dX6_isStanding_0 : decode prog_8_method_5_code 0 = .ok (.aload_n 0, 1) := by decide +kernel
theorem dX6_isStanding_1 : decode prog_8_method_5_code 1 = .ok (.getfield 31, 3) := by decide +kernel
theorem dX6_isStanding_4 : decode prog_8_method_5_code 4 = .ok (.iload_n 3, 1) := by decide +kernel
theorem dX6_isStanding_5 : decode prog_8_method_5_code 5 = .ok (.invokevirtual 39, 3) := by decide +kernel
theorem dX6_isStanding_8 : decode prog_8_method_5_code 8 = .ok (.bipush 6, 2) := by decide +kernel
theorem dX6_isStanding_10 : decode prog_8_method_5_code 10 = .ok (.invokevirtual 47, 3) := by decide +kernel
theorem dX6_isStanding_13 : decode prog_8_method_5_code 13 = .ok (.istore 4, 2) := by decide +kernel
theorem dX6_isStanding_15 : decode prog_8_method_5_code 15 = .ok (.aload_n 0, 1) := by decide +kernel
theorem dX6_isStanding_16 : decode prog_8_method_5_code 16 = .ok (.getfield 21, 3) := by decide +kernel
theorem dX6_isStanding_19 : decode prog_8_method_5_code 19 = .ok (.iload_n 1, 1) := by decide +kernel
theorem dX6_isStanding_20 : decode prog_8_method_5_code 20 = .ok (.iaload, 1) := by decide +kernel
theorem dX6_isStanding_21 : decode prog_8_method_5_code 21 = .ok (.iconst (-1), 1) := by decide +kernel
theorem dX6_isStanding_22 : decode prog_8_method_5_code 22 = .ok (.if_icmp .eq 27, 3) := by decide +kernel
theorem dX6_isStanding_25 : decode prog_8_method_5_code 25 = .ok (.aload_n 0, 1) := by decide +kernel
theorem dX6_isStanding_26 : decode prog_8_method_5_code 26 = .ok (.getfield 21, 3) := by decide +kernel
theorem dX6_isStanding_29 : decode prog_8_method_5_code 29 = .ok (.iload_n 1, 1) := by decide +kernel
theorem dX6_isStanding_30 : decode prog_8_method_5_code 30 = .ok (.iaload, 1) := by decide +kernel
theorem dX6_isStanding_31 : decode prog_8_method_5_code 31 = .ok (.iload_n 2, 1) := by decide +kernel
theorem dX6_isStanding_32 : decode prog_8_method_5_code 32 = .ok (.if_icmp .gt 17, 3) := by decide +kernel
theorem dX6_isStanding_35 : decode prog_8_method_5_code 35 = .ok (.aload_n 0, 1) := by decide +kernel
theorem dX6_isStanding_36 : decode prog_8_method_5_code 36 = .ok (.getfield 24, 3) := by decide +kernel
theorem dX6_isStanding_39 : decode prog_8_method_5_code 39 = .ok (.iload_n 1, 1) := by decide +kernel
theorem dX6_isStanding_40 : decode prog_8_method_5_code 40 = .ok (.iaload, 1) := by decide +kernel
theorem dX6_isStanding_41 : decode prog_8_method_5_code 41 = .ok (.iload_n 3, 1) := by decide +kernel
theorem dX6_isStanding_42 : decode prog_8_method_5_code 42 = .ok (.if_icmp .gt 7, 3) := by decide +kernel
theorem dX6_isStanding_45 : decode prog_8_method_5_code 45 = .ok (.iconst 1, 1) := by decide +kernel
theorem dX6_isStanding_46 : decode prog_8_method_5_code 46 = .ok (.goto 4, 3) := by decide +kernel
theorem dX6_isStanding_49 : decode prog_8_method_5_code 49 = .ok (.iconst 0, 1) := by decide +kernel
theorem dX6_isStanding_50 : decode prog_8_method_5_code 50 = .ok (.istore 5, 2) := by decide +kernel
theorem dX6_isStanding_52 : decode prog_8_method_5_code 52 = .ok (.aload_n 0, 1) := by decide +kernel
theorem dX6_isStanding_53 : decode prog_8_method_5_code 53 = .ok (.getfield 15, 3) := by decide +kernel
theorem dX6_isStanding_56 : decode prog_8_method_5_code 56 = .ok (.iload_n 1, 1) := by decide +kernel
theorem dX6_isStanding_57 : decode prog_8_method_5_code 57 = .ok (.iaload, 1) := by decide +kernel
theorem dX6_isStanding_58 : decode prog_8_method_5_code 58 = .ok (.iload_n 2, 1) := by decide +kernel
theorem dX6_isStanding_59 : decode prog_8_method_5_code 59 = .ok (.if_icmp .gt 29, 3) := by decide +kernel
theorem dX6_isStanding_62 : decode prog_8_method_5_code 62 = .ok (.iload 5, 2) := by decide +kernel
theorem dX6_isStanding_64 : decode prog_8_method_5_code 64 = .ok (.ifCond .ne 24, 3) := by decide +kernel
theorem dX6_isStanding_67 : decode prog_8_method_5_code 67 = .ok (.iload_n 2, 1) := by decide +kernel
theorem dX6_isStanding_68 : decode prog_8_method_5_code 68 = .ok (.aload_n 0, 1) := by decide +kernel
theorem dX6_isStanding_69 : decode prog_8_method_5_code 69 = .ok (.getfield 18, 3) := by decide +kernel
theorem dX6_isStanding_72 : decode prog_8_method_5_code 72 = .ok (.iload_n 1, 1) := by decide +kernel
theorem dX6_isStanding_73 : decode prog_8_method_5_code 73 = .ok (.iaload, 1) := by decide +kernel
theorem dX6_isStanding_74 : decode prog_8_method_5_code 74 = .ok (.isub, 1) := by decide +kernel
theorem dX6_isStanding_75 : decode prog_8_method_5_code 75 = .ok (.iload 4, 2) := by decide +kernel
theorem dX6_isStanding_77 : decode prog_8_method_5_code 77 = .ok (.sipush 365, 3) := by decide +kernel
theorem dX6_isStanding_80 : decode prog_8_method_5_code 80 = .ok (.imul, 1) := by decide +kernel
theorem dX6_isStanding_81 : decode prog_8_method_5_code 81 = .ok (.if_icmp .gt 7, 3) := by decide +kernel
theorem dX6_isStanding_84 : decode prog_8_method_5_code 84 = .ok (.iconst 1, 1) := by decide +kernel
theorem dX6_isStanding_85 : decode prog_8_method_5_code 85 = .ok (.goto 4, 3) := by decide +kernel
theorem dX6_isStanding_88 : decode prog_8_method_5_code 88 = .ok (.iconst 0, 1) := by decide +kernel
theorem dX6_isStanding_89 : decode prog_8_method_5_code 89 = .ok (.ireturn, 1) := by decide +kernel
noncomputable def F_X6_isStanding_b50 (v1 : Int) (v2 : Int) (v4 : Int) (u0 : Int) (M : bM) : Option (Int) :=
  b_g (0 ≤ v1 ∧ v1 < 40) (if v2 < (M 143 v1) then (some 0) else (if u0 = 0 then (b_g ((0 ≤ v1 ∧ v1 < 40) ∧ (b_i32 (v2 - (M 144 v1))) ∧ (b_i32 (v4 * 365))) (if (v4 * 365) < (v2 - (M 144 v1)) then (some 0) else (some 1))) else (some 0)))
theorem t_X6_isStanding_b50 {l : Launch} {E : bE} {Q : Int → Prop} {v1 : Int} {v2 : Int} {v4 : Int} {u0 : Int} {M : bM} (h : b_wp (F_X6_isStanding_b50 v1 v2 v4 u0 M) (Q)) : V l E xX6_isStanding (0, 0) 50 [(0, bR 8), (1, bI v1), (2, bI v2), (4, bI v4)] [bI u0] M (b_pIp M Q) := by
  unfold F_X6_isStanding_b50 at h
  obtain ⟨g6, h⟩ := b_wp_g h
  refine v_istore (i := 5) (ls' := [(5, bI _), (0, bR _), (1, bI _), (2, bI _), (4, bI _)]) (by decide) dX6_isStanding_50 rfl ?_
  refine v_aload_n (f := 0) 1 rfl dX6_isStanding_52 ?_
  refine v_getR (kf := 4) (kz := 4) rfl kd_8 rfl ⟨by decide, by decide⟩ rfl wf_6_15 dX6_isStanding_53 ?_
  refine v_iload_n (f := 1) 2 rfl dX6_isStanding_56 ?_
  refine v_iaload kd_143 g6 (by decide) dX6_isStanding_57 ?_
  refine v_iload_n (f := 2) 3 rfl dX6_isStanding_58 ?_
  refine v_icmp_gt (tgt := 88) dX6_isStanding_59 (by decide) (fun c7 => ?_) (fun c7 => ?_)
  · replace h := b_wp_t c7 h
    refine v_iconst ⟨by decide, by decide⟩ dX6_isStanding_88 ?_
    refine v_zreturn rfl (Or.inl rfl) dX6_isStanding_89 ⟨by decide, by decide⟩ ?_
    exact ⟨_, rfl, rfl, h⟩
  · replace h := b_wp_f c7 h
    refine v_iload (i := 5) 0 rfl dX6_isStanding_62 ?_
    refine v_if_ne (tgt := 88) dX6_isStanding_64 (by decide) (fun c8 => ?_) (fun c8 => ?_)
    · replace h := b_wp_f c8 h
      refine v_iconst ⟨by decide, by decide⟩ dX6_isStanding_88 ?_
      refine v_zreturn rfl (Or.inl rfl) dX6_isStanding_89 ⟨by decide, by decide⟩ ?_
      exact ⟨_, rfl, rfl, h⟩
    · replace h := b_wp_t c8 h
      obtain ⟨⟨g9, g10, g11⟩, h⟩ := b_wp_g h
      refine v_iload_n (f := 2) 3 rfl dX6_isStanding_67 ?_
      refine v_aload_n (f := 0) 1 rfl dX6_isStanding_68 ?_
      refine v_getR (kf := 5) (kz := 5) rfl kd_8 rfl ⟨by decide, by decide⟩ rfl wf_6_18 dX6_isStanding_69 ?_
      refine v_iload_n (f := 1) 2 rfl dX6_isStanding_72 ?_
      refine v_iaload kd_144 g9 (by decide) dX6_isStanding_73 ?_
      refine v_isubN g10 dX6_isStanding_74 ?_
      refine v_iload (i := 4) 4 rfl dX6_isStanding_75 ?_
      refine v_sipush ⟨by decide, by decide⟩ (by decide) dX6_isStanding_77 ?_
      refine v_imulN g11 dX6_isStanding_80 ?_
      refine v_icmp_gt (tgt := 88) dX6_isStanding_81 (by decide) (fun c12 => ?_) (fun c12 => ?_)
      · replace h := b_wp_t c12 h
        refine v_iconst ⟨by decide, by decide⟩ dX6_isStanding_88 ?_
        refine v_zreturn rfl (Or.inl rfl) dX6_isStanding_89 ⟨by decide, by decide⟩ ?_
        exact ⟨_, rfl, rfl, h⟩
      · replace h := b_wp_f c12 h
        refine v_iconst ⟨by decide, by decide⟩ dX6_isStanding_84 ?_
        refine v_goto (tgt := 89) dX6_isStanding_85 (by decide) ?_
        refine v_zreturn rfl (Or.inr rfl) dX6_isStanding_89 ⟨by decide, by decide⟩ ?_
        exact ⟨_, rfl, rfl, h⟩
noncomputable def F_X6_isStanding_b49 (v1 : Int) (v2 : Int) (v4 : Int) (M : bM) : Option (Int) :=
  F_X6_isStanding_b50 v1 v2 v4 0 M
theorem t_X6_isStanding_b49 {l : Launch} {E : bE} {Q : Int → Prop} {v1 : Int} {v2 : Int} {v4 : Int} {M : bM} (h : b_wp (F_X6_isStanding_b49 v1 v2 v4 M) (Q)) : V l E xX6_isStanding (0, 0) 49 [(0, bR 8), (1, bI v1), (2, bI v2), (4, bI v4)] [] M (b_pIp M Q) := by
  unfold F_X6_isStanding_b49 at h
  refine v_iconst ⟨by decide, by decide⟩ dX6_isStanding_49 ?_
  exact t_X6_isStanding_b50 h
noncomputable def F_X6_isStanding (v1 : Int) (v2 : Int) (v3 : Int) (M : bM) : Option (Int) :=
  b_bind (F_X1_inForce v3 M) (fun x1 => b_g (12 ≤ x1 ∧ x1 < 22) (b_bind (F_X0_told_a x1 6 M) (fun x3 => b_g (0 ≤ v1 ∧ v1 < 40) (if (M 145 v1) = (-1) then (F_X6_isStanding_b49 v1 v2 x3 M) else (b_g (0 ≤ v1 ∧ v1 < 40) (if v2 < (M 145 v1) then (F_X6_isStanding_b49 v1 v2 x3 M) else (b_g (0 ≤ v1 ∧ v1 < 40) (if v3 < (M 146 v1) then (F_X6_isStanding_b49 v1 v2 x3 M) else (F_X6_isStanding_b50 v1 v2 x3 1 M)))))))))
theorem t_X6_isStanding {l : Launch} {E : bE} {Q : Int → Prop} {v1 : Int} {v2 : Int} {v3 : Int} {M : bM} (h : b_wp (F_X6_isStanding v1 v2 v3 M) (Q)) : V l E xX6_isStanding (0, 0) 0 [(0, bR 8), (1, bI v1), (2, bI v2), (3, bI v3)] [] M (b_pIp M Q) := by
  unfold F_X6_isStanding at h
  refine v_aload_n (f := 0) 0 rfl dX6_isStanding_0 ?_
  refine v_getR (kf := 2) (kz := 2) rfl kd_8 rfl ⟨by decide, by decide⟩ rfl wf_6_31 dX6_isStanding_1 ?_
  refine v_iload_n (f := 3) 3 rfl dX6_isStanding_4 ?_
  refine v_cVAp (nA := 1) (As := [bI _]) (ix := 39) (cf_X1_inForce (b_wp_b h)) rfl kd_4 rfl rfl wc_X1_inForce wm_6_39 wi_X1_inForce ws_X1_inForce wn_1 ⟨by decide, by decide, by decide⟩ rfl ⟨by decide, by decide⟩ ⟨by decide, by decide⟩ (Nat.le_of_ble_eq_true rfl) dX6_isStanding_5 (fun x1 h => ?_)
  obtain ⟨g2, h⟩ := b_wp_g h
  refine v_bipush ⟨by decide, by decide⟩ (by decide) dX6_isStanding_8 ?_
  refine v_cVIp (nA := 1) (As := [bI _]) (ix := 47) (cf_X0_told_a (b_wp_b h)) rfl (kd_act0 g2) rfl rfl wc_X0_told wm_6_47 wi_X0_told ws_X0_told wn_0 ⟨by decide, by decide, by decide⟩ rfl ⟨by decide, by decide⟩ ⟨by decide, by decide⟩ (Nat.le_of_ble_eq_true rfl) dX6_isStanding_10 (fun x3 h => ?_)
  obtain ⟨g4, h⟩ := b_wp_g h
  refine v_istore (i := 4) (ls' := [(4, bI _), (0, bR _), (1, bI _), (2, bI _), (3, bI _)]) (by decide) dX6_isStanding_13 rfl ?_
  refine v_aload_n (f := 0) 1 rfl dX6_isStanding_15 ?_
  refine v_getR (kf := 6) (kz := 6) rfl kd_8 rfl ⟨by decide, by decide⟩ rfl wf_6_21 dX6_isStanding_16 ?_
  refine v_iload_n (f := 1) 2 rfl dX6_isStanding_19 ?_
  refine v_iaload kd_145 g4 (by decide) dX6_isStanding_20 ?_
  refine v_iconst ⟨by decide, by decide⟩ dX6_isStanding_21 ?_
  refine v_icmp_eq (tgt := 49) dX6_isStanding_22 (by decide) (fun c5 => ?_) (fun c5 => ?_)
  · replace h := b_wp_t c5 h
    refine v_sub (ls2 := [(0, bR _), (1, bI _), (2, bI _), (4, bI _)]) [1, 2, 3, 0] rfl ?_
    exact t_X6_isStanding_b49 h
  · replace h := b_wp_f c5 h
    obtain ⟨g13, h⟩ := b_wp_g h
    refine v_aload_n (f := 0) 1 rfl dX6_isStanding_25 ?_
    refine v_getR (kf := 6) (kz := 6) rfl kd_8 rfl ⟨by decide, by decide⟩ rfl wf_6_21 dX6_isStanding_26 ?_
    refine v_iload_n (f := 1) 2 rfl dX6_isStanding_29 ?_
    refine v_iaload kd_145 g13 (by decide) dX6_isStanding_30 ?_
    refine v_iload_n (f := 2) 3 rfl dX6_isStanding_31 ?_
    refine v_icmp_gt (tgt := 49) dX6_isStanding_32 (by decide) (fun c14 => ?_) (fun c14 => ?_)
    · replace h := b_wp_t c14 h
      refine v_sub (ls2 := [(0, bR _), (1, bI _), (2, bI _), (4, bI _)]) [1, 2, 3, 0] rfl ?_
      exact t_X6_isStanding_b49 h
    · replace h := b_wp_f c14 h
      obtain ⟨g15, h⟩ := b_wp_g h
      refine v_aload_n (f := 0) 1 rfl dX6_isStanding_35 ?_
      refine v_getR (kf := 7) (kz := 7) rfl kd_8 rfl ⟨by decide, by decide⟩ rfl wf_6_24 dX6_isStanding_36 ?_
      refine v_iload_n (f := 1) 2 rfl dX6_isStanding_39 ?_
      refine v_iaload kd_146 g15 (by decide) dX6_isStanding_40 ?_
      refine v_iload_n (f := 3) 4 rfl dX6_isStanding_41 ?_
      refine v_icmp_gt (tgt := 49) dX6_isStanding_42 (by decide) (fun c16 => ?_) (fun c16 => ?_)
      · replace h := b_wp_t c16 h
        refine v_sub (ls2 := [(0, bR _), (1, bI _), (2, bI _), (4, bI _)]) [1, 2, 3, 0] rfl ?_
        exact t_X6_isStanding_b49 h
      · replace h := b_wp_f c16 h
        refine v_iconst ⟨by decide, by decide⟩ dX6_isStanding_45 ?_
        refine v_goto (tgt := 50) dX6_isStanding_46 (by decide) ?_
        refine v_sub (ls2 := [(0, bR _), (1, bI _), (2, bI _), (4, bI _)]) [1, 2, 3, 0] rfl ?_
        exact t_X6_isStanding_b50 h
theorem cf_X6_isStanding {l : Launch} {E : bE} {M : bM} {v1 : Int} {v2 : Int} {v3 : Int} {Q : Int → Prop} (h : b_wp (F_X6_isStanding v1 v2 v3 M) Q) : b_C l E xX6_isStanding yX6_isStanding [bR 8, bI v1, bI v2, bI v3] M (b_pIp M Q) := b_met (by decide) ⟨rfl, rfl⟩ (Nat.le_of_ble_eq_true rfl) (fun _ _ => t_X6_isStanding h)
abbrev xX11_stands : bX := ("BurntHall", prog_1_method_42_code, 4, (Option.some Jvm.ClassFile.FieldType.int), b_rm 4 0 0, 0, "stands")
abbrev yX11_stands : MethodName := ⟨"BurntHall", "stands", "(III)I"⟩
theorem dX11_stands_0 : decode prog_1_method_42_code 0 = .ok (.aload_n 0, 1) := by decide +kernel
theorem dX11_stands_1 : decode prog_1_method_42_code 1 = .ok (.getfield 69, 3) := by decide +kernel
theorem dX11_stands_4 : decode prog_1_method_42_code 4 = .ok (.iload_n 1, 1) := by decide +kernel
theorem dX11_stands_5 : decode prog_1_method_42_code 5 = .ok (.invokevirtual 312, 3) := by decide +kernel
theorem dX11_stands_8 : decode prog_1_method_42_code 8 = .ok (.ifCond .eq 17, 3) := by decide +kernel
theorem dX11_stands_11 : decode prog_1_method_42_code 11 = .ok (.iload_n 2, 1) := by decide +kernel
theorem dX11_stands_12 : decode prog_1_method_42_code 12 = .ok (.invokestatic 102, 3) := by decide +kernel
theorem dX11_stands_15 : decode prog_1_method_42_code 15 = .ok (.ifCond .eq 10, 3) := by decide +kernel
theorem dX11_stands_18 : decode prog_1_method_42_code 18 = .ok (.iload_n 3, 1) := by decide +kernel
theorem dX11_stands_19 : decode prog_1_method_42_code 19 = .ok (.invokestatic 102, 3) := by decide +kernel
theorem dX11_stands_22 : decode prog_1_method_42_code 22 = .ok (.ifCond .ne 6, 3) := by decide +kernel
theorem dX11_stands_25 : decode prog_1_method_42_code 25 = .ok (.bipush (-2), 2) := by decide +kernel
theorem dX11_stands_27 : decode prog_1_method_42_code 27 = .ok (.ireturn, 1) := by decide +kernel
theorem dX11_stands_28 : decode prog_1_method_42_code 28 = .ok (.aload_n 0, 1) := by decide +kernel
theorem dX11_stands_29 : decode prog_1_method_42_code 29 = .ok (.getfield 69, 3) := by decide +kernel
theorem dX11_stands_32 : decode prog_1_method_42_code 32 = .ok (.iload_n 1, 1) := by decide +kernel
theorem dX11_stands_33 : decode prog_1_method_42_code 33 = .ok (.iload_n 2, 1) := by decide +kernel
theorem dX11_stands_34 : decode prog_1_method_42_code 34 = .ok (.iload_n 3, 1) := by decide +kernel
theorem dX11_stands_35 : decode prog_1_method_42_code 35 = .ok (.invokevirtual 316, 3) := by decide +kernel
theorem dX11_stands_38 : decode prog_1_method_42_code 38 = .ok (.ifCond .eq 7, 3) := by decide +kernel
theorem dX11_stands_41 : decode prog_1_method_42_code 41 = .ok (.iconst 1, 1) := by decide +kernel
theorem dX11_stands_42 : decode prog_1_method_42_code 42 = .ok (.goto 4, 3) := by decide +kernel
theorem dX11_stands_45 : decode prog_1_method_42_code 45 = .ok (.iconst 0, 1) := by decide +kernel
theorem dX11_stands_46 : decode prog_1_method_42_code 46 = .ok (.ireturn, 1) := by decide +kernel
noncomputable def F_X11_stands (v1 : Int) (v2 : Int) (v3 : Int) (M : bM) : Option (Int) :=
  b_bind (F_X6_has v1 M) (fun x1 => if x1 = 0 then (some (-2)) else (b_bind (F_X11_isDay v2 M) (fun x3 => if x3 = 0 then (some (-2)) else (b_bind (F_X11_isDay v3 M) (fun x5 => if x5 = 0 then (some (-2)) else (b_bind (F_X6_isStanding v1 v2 v3 M) (fun x7 => if x7 = 0 then (some 0) else (some 1))))))))
theorem t_X11_stands {l : Launch} {E : bE} {Q : Int → Prop} {v1 : Int} {v2 : Int} {v3 : Int} {M : bM} (h : b_wp (F_X11_stands v1 v2 v3 M) (Q)) : V l E xX11_stands (0, 0) 0 [(0, bR 0), (1, bI v1), (2, bI v2), (3, bI v3)] [] M (b_pIp M Q) := by
  unfold F_X11_stands at h
  refine v_aload_n (f := 0) 0 rfl dX11_stands_0 ?_
  refine v_getR (kf := 7) (kz := 7) rfl kd_0 rfl ⟨by decide, by decide⟩ rfl wf_11_69 dX11_stands_1 ?_
  refine v_iload_n (f := 1) 1 rfl dX11_stands_4 ?_
  refine v_cVIp (nA := 1) (As := [bI _]) (ix := 312) (cf_X6_has (b_wp_b h)) rfl kd_8 rfl rfl wc_X6_has wm_11_312 wi_X6_has ws_X6_has wn_6 ⟨by decide, by decide, by decide⟩ rfl ⟨by decide, by decide⟩ ⟨by decide, by decide⟩ (Nat.le_of_ble_eq_true rfl) dX11_stands_5 (fun x1 h => ?_)
  refine v_if_eq (tgt := 25) dX11_stands_8 (by decide) (fun c2 => ?_) (fun c2 => ?_)
  · replace h := b_wp_t c2 h
    refine v_bipush ⟨by decide, by decide⟩ (by decide) dX11_stands_25 ?_
    refine v_ireturn rfl dX11_stands_27 ⟨by decide, by decide⟩ ?_
    exact ⟨_, rfl, rfl, h⟩
  · replace h := b_wp_f c2 h
    refine v_iload_n (f := 2) 2 rfl dX11_stands_11 ?_
    refine v_cSIp (nA := 1) (As := [bI _]) (ix := 102) (cf_X11_isDay (b_wp_b h)) rfl wc_X11_isDay wm_11_102 wi_X11_isDay wn_11 ⟨by decide, by decide, by decide⟩ rfl ⟨by decide, by decide⟩ ⟨by decide, by decide⟩ (Nat.le_of_ble_eq_true rfl) dX11_stands_12 (fun x3 h => ?_)
    refine v_if_eq (tgt := 25) dX11_stands_15 (by decide) (fun c4 => ?_) (fun c4 => ?_)
    · replace h := b_wp_t c4 h
      refine v_bipush ⟨by decide, by decide⟩ (by decide) dX11_stands_25 ?_
      refine v_ireturn rfl dX11_stands_27 ⟨by decide, by decide⟩ ?_
      exact ⟨_, rfl, rfl, h⟩
    · replace h := b_wp_f c4 h
      refine v_iload_n (f := 3) 3 rfl dX11_stands_18 ?_
      refine v_cSIp (nA := 1) (As := [bI _]) (ix := 102) (cf_X11_isDay (b_wp_b h)) rfl wc_X11_isDay wm_11_102 wi_X11_isDay wn_11 ⟨by decide, by decide, by decide⟩ rfl ⟨by decide, by decide⟩ ⟨by decide, by decide⟩ (Nat.le_of_ble_eq_true rfl) dX11_stands_19 (fun x5 h => ?_)
      refine v_if_ne (tgt := 28) dX11_stands_22 (by decide) (fun c6 => ?_) (fun c6 => ?_)
      · replace h := b_wp_f c6 h
        refine v_aload_n (f := 0) 0 rfl dX11_stands_28 ?_
        refine v_getR (kf := 7) (kz := 7) rfl kd_0 rfl ⟨by decide, by decide⟩ rfl wf_11_69 dX11_stands_29 ?_
        refine v_iload_n (f := 1) 1 rfl dX11_stands_32 ?_
        refine v_iload_n (f := 2) 2 rfl dX11_stands_33 ?_
        refine v_iload_n (f := 3) 3 rfl dX11_stands_34 ?_
        refine v_cVIp (nA := 3) (As := [bI _, bI _, bI _]) (ix := 316) (cf_X6_isStanding (b_wp_b h)) rfl kd_8 rfl rfl wc_X6_isStanding wm_11_316 wi_X6_isStanding ws_X6_isStanding wn_6 ⟨by decide, by decide, by decide⟩ rfl ⟨by decide, by decide⟩ ⟨by decide, by decide⟩ (Nat.le_of_ble_eq_true rfl) dX11_stands_35 (fun x7 h => ?_)
        refine v_if_eq (tgt := 45) dX11_stands_38 (by decide) (fun c8 => ?_) (fun c8 => ?_)
        · replace h := b_wp_t c8 h
          refine v_iconst ⟨by decide, by decide⟩ dX11_stands_45 ?_
          refine v_ireturn rfl dX11_stands_46 ⟨by decide, by decide⟩ ?_
          exact ⟨_, rfl, rfl, h⟩
        · replace h := b_wp_f c8 h
          refine v_iconst ⟨by decide, by decide⟩ dX11_stands_41 ?_
          refine v_goto (tgt := 46) dX11_stands_42 (by decide) ?_
          refine v_ireturn rfl dX11_stands_46 ⟨by decide, by decide⟩ ?_
          exact ⟨_, rfl, rfl, h⟩
      · replace h := b_wp_t c6 h
        refine v_bipush ⟨by decide, by decide⟩ (by decide) dX11_stands_25 ?_
        refine v_ireturn rfl dX11_stands_27 ⟨by decide, by decide⟩ ?_
        exact ⟨_, rfl, rfl, h⟩
theorem cf_X11_stands {l : Launch} {E : bE} {M : bM} {v1 : Int} {v2 : Int} {v3 : Int} {Q : Int → Prop} (h : b_wp (F_X11_stands v1 v2 v3 M) Q) : b_C l E xX11_stands yX11_stands [bR 0, bI v1, bI v2, bI v3] M (b_pIp M Q) := b_met (by decide) ⟨rfl, rfl⟩ (Nat.le_of_ble_eq_true rfl) (fun _ _ => t_X11_stands h)
abbrev xX6_ahead : bX := ("BurntHall$Mortgages", prog_8_method_6_code, 9, (Option.some Jvm.ClassFile.FieldType.int), b_rm 4 0 0, 0, "ahead")
abbrev yX6_ahead : MethodName := ⟨"BurntHall$Mortgages", "ahead", "(III)I"⟩
theorem dX6_ahead_0 : decode prog_8_method_6_code 0 = .ok (.aload_n 0, 1) := by decide +kernel
theorem dX6_ahead_1 : decode prog_8_method_6_code 1 = .ok (.getfield 27, 3) := by decide +kernel
theorem dX6_ahead_4 : decode prog_8_method_6_code 4 = .ok (.getfield 51, 3) := by decide +kernel
theorem dX6_ahead_7 : decode prog_8_method_6_code 7 = .ok (.aload_n 0, 1) := by decide +kernel
theorem dX6_ahead_8 : decode prog_8_method_6_code 8 = .ok (.getfield 11, 3) := by decide +kernel
theorem dX6_ahead_11 : decode prog_8_method_6_code 11 = .ok (.iload_n 1, 1) := by decide +kernel
theorem dX6_ahead_12 : decode prog_8_method_6_code 12 = .ok (.iaload, 1) := by decide +kernel
theorem dX6_ahead_13 : decode prog_8_method_6_code 13 = .ok (.laload, 1) := by decide +kernel
theorem dX6_ahead_14 : decode prog_8_method_6_code 14 = .ok (.lstore 4, 2) := by decide +kernel
theorem dX6_ahead_16 : decode prog_8_method_6_code 16 = .ok (.iconst 0, 1) := by decide +kernel
theorem dX6_ahead_17 : decode prog_8_method_6_code 17 = .ok (.istore 6, 2) := by decide +kernel
theorem dX6_ahead_19 : decode prog_8_method_6_code 19 = .ok (.iconst 0, 1) := by decide +kernel
theorem dX6_ahead_20 : decode prog_8_method_6_code 20 = .ok (.istore 7, 2) := by decide +kernel
theorem dX6_ahead_22 : decode prog_8_method_6_code 22 = .ok (.iload 7, 2) := by decide +kernel
theorem dX6_ahead_24 : decode prog_8_method_6_code 24 = .ok (.aload_n 0, 1) := by decide +kernel
theorem dX6_ahead_25 : decode prog_8_method_6_code 25 = .ok (.getfield 35, 3) := by decide +kernel
theorem dX6_ahead_28 : decode prog_8_method_6_code 28 = .ok (.if_icmp .ge 92, 3) := by decide +kernel
theorem dX6_ahead_31 : decode prog_8_method_6_code 31 = .ok (.aload_n 0, 1) := by decide +kernel
theorem dX6_ahead_32 : decode prog_8_method_6_code 32 = .ok (.getfield 15, 3) := by decide +kernel
theorem dX6_ahead_35 : decode prog_8_method_6_code 35 = .ok (.iload 7, 2) := by decide +kernel
theorem dX6_ahead_37 : decode prog_8_method_6_code 37 = .ok (.iaload, 1) := by decide +kernel
theorem dX6_ahead_38 : decode prog_8_method_6_code 38 = .ok (.aload_n 0, 1) := by decide +kernel
theorem dX6_ahead_39 : decode prog_8_method_6_code 39 = .ok (.getfield 15, 3) := by decide +kernel
theorem dX6_ahead_42 : decode prog_8_method_6_code 42 = .ok (.iload_n 1, 1) := by decide +kernel
theorem dX6_ahead_43 : decode prog_8_method_6_code 43 = .ok (.iaload, 1) := by decide +kernel
theorem dX6_ahead_44 : decode prog_8_method_6_code 44 = .ok (.if_icmp .lt 25, 3) := by decide +kernel
theorem dX6_ahead_47 : decode prog_8_method_6_code 47 = .ok (.aload_n 0, 1) := by decide +kernel
theorem dX6_ahead_48 : decode prog_8_method_6_code 48 = .ok (.getfield 15, 3) := by decide +kernel
theorem dX6_ahead_51 : decode prog_8_method_6_code 51 = .ok (.iload 7, 2) := by decide +kernel
theorem dX6_ahead_53 : decode prog_8_method_6_code 53 = .ok (.iaload, 1) := by decide +kernel
theorem dX6_ahead_54 : decode prog_8_method_6_code 54 = .ok (.aload_n 0, 1) := by decide +kernel
theorem dX6_ahead_55 : decode prog_8_method_6_code 55 = .ok (.getfield 15, 3) := by decide +kernel
theorem dX6_ahead_58 : decode prog_8_method_6_code 58 = .ok (.iload_n 1, 1) := by decide +kernel
theorem dX6_ahead_59 : decode prog_8_method_6_code 59 = .ok (.iaload, 1) := by decide +kernel
theorem dX6_ahead_60 : decode prog_8_method_6_code 60 = .ok (.if_icmp .ne 13, 3) := by decide +kernel
theorem dX6_ahead_63 : decode prog_8_method_6_code 63 = .ok (.iload 7, 2) := by decide +kernel
theorem dX6_ahead_65 : decode prog_8_method_6_code 65 = .ok (.iload_n 1, 1) := by decide +kernel
theorem dX6_ahead_66 : decode prog_8_method_6_code 66 = .ok (.if_icmp .ge 7, 3) := by decide +kernel
theorem dX6_ahead_69 : decode prog_8_method_6_code 69 = .ok (.iconst 1, 1) := by decide +kernel
theorem dX6_ahead_70 : decode prog_8_method_6_code 70 = .ok (.goto 4, 3) := by decide +kernel
theorem dX6_ahead_73 : decode prog_8_method_6_code 73 = .ok (.iconst 0, 1) := by decide +kernel
theorem dX6_ahead_74 : decode prog_8_method_6_code 74 = .ok (.istore 8, 2) := by decide +kernel
theorem dX6_ahead_76 : decode prog_8_method_6_code 76 = .ok (.iload 8, 2) := by decide +kernel
theorem dX6_ahead_78 : decode prog_8_method_6_code 78 = .ok (.ifCond .eq 36, 3) := by decide +kernel
theorem dX6_ahead_81 : decode prog_8_method_6_code 81 = .ok (.aload_n 0, 1) := by decide +kernel
theorem dX6_ahead_82 : decode prog_8_method_6_code 82 = .ok (.getfield 27, 3) := by decide +kernel
theorem dX6_ahead_85 : decode prog_8_method_6_code 85 = .ok (.aload_n 0, 1) := by decide +kernel
theorem dX6_ahead_86 : decode prog_8_method_6_code 86 = .ok (.getfield 11, 3) := by decide +kernel
theorem dX6_ahead_89 : decode prog_8_method_6_code 89 = .ok (.iload 7, 2) := by decide +kernel
theorem dX6_ahead_91 : decode prog_8_method_6_code 91 = .ok (.iaload, 1) := by decide +kernel
theorem dX6_ahead_92 : decode prog_8_method_6_code 92 = .ok (.lload 4, 2) := by decide +kernel
theorem dX6_ahead_94 : decode prog_8_method_6_code 94 = .ok (.invokevirtual 57, 3) := by decide +kernel
theorem dX6_ahead_97 : decode prog_8_method_6_code 97 = .ok (.ifCond .eq 17, 3) := by decide +kernel
theorem dX6_ahead_100 : decode prog_8_method_6_code 100 = .ok (.aload_n 0, 1) := by decide +kernel
theorem dX6_ahead_101 : decode prog_8_method_6_code 101 = .ok (.iload 7, 2) := by decide +kernel
theorem dX6_ahead_103 : decode prog_8_method_6_code 103 = .ok (.iload_n 2, 1) := by decide +kernel
theorem dX6_ahead_104 : decode prog_8_method_6_code 104 = .ok (.iload_n 3, 1) := by decide +kernel
theorem dX6_ahead_105 : decode prog_8_method_6_code 105 = .ok (.invokevirtual 61, 3) := by decide +kernel
theorem dX6_ahead_108 : decode prog_8_method_6_code 108 = .ok (.ifCond .eq 6, 3) := by decide +kernel
theorem dX6_ahead_111 : decode prog_8_method_6_code 111 = .ok (.iinc 6 1, 3) := by decide +kernel
theorem dX6_ahead_114 : decode prog_8_method_6_code 114 = .ok (.iinc 7 1, 3) := by decide +kernel
theorem dX6_ahead_117 : decode prog_8_method_6_code 117 = .ok (.goto (-95), 3) := by decide +kernel
theorem dX6_ahead_120 : decode prog_8_method_6_code 120 = .ok (.iload 6, 2) := by decide +kernel
theorem dX6_ahead_122 : decode prog_8_method_6_code 122 = .ok (.ireturn, 1) := by decide +kernel
abbrev A_X6_ahead_22 (l : Launch) (E : bE) (Q : Int → Prop) (v1 : Int) (v2 : Int) (v3 : Int) (v4 : Int) (M : bM) : (Int × Int) → Prop := (fun t : Int × Int => V l E xX6_ahead (0, 0) 22 [(0, bR 8), (1, bI v1), (2, bI v2), (3, bI v3), (4, bJ v4), (6, bI (t.1)), (7, bI (t.2))] [] M (b_pIp M Q))
abbrev X_X6_ahead_22 (l : Launch) (E : bE) (Q : Int → Prop) (v1 : Int) (v2 : Int) (v3 : Int) (v4 : Int) (M : bM) : (Int) → Prop := (fun t : Int => V l E xX6_ahead (0, 0) 120 [(6, bI t)] [] M (b_pIp M Q))
noncomputable def F_X6_ahead_b74 (v1 : Int) (v2 : Int) (v3 : Int) (v4 : Int) (v6 : Int) (v7 : Int) (u0 : Int) (M : bM) : Option ((Int × Int) ⊕ (Int)) :=
  if u0 = 0 then (b_g (b_i32 (v7 + 1)) (some (.inl (v6, (v7 + 1))))) else (b_g (0 ≤ v7 ∧ v7 < 40) (b_bind (F_X5_isAmong (M 142 v7) v4 M) (fun x11 => if x11 = 0 then (b_g (b_i32 (v7 + 1)) (some (.inl (v6, (v7 + 1))))) else (b_bind (F_X6_isStanding v7 v2 v3 M) (fun x14 => if x14 = 0 then (b_g (b_i32 (v7 + 1)) (some (.inl (v6, (v7 + 1))))) else (b_g ((b_i32 (v6 + 1)) ∧ (b_i32 (v7 + 1))) (some (.inl ((v6 + 1), (v7 + 1))))))))))
theorem t_X6_ahead_b74 {l : Launch} {E : bE} {Q : Int → Prop} {v1 : Int} {v2 : Int} {v3 : Int} {v4 : Int} {v6 : Int} {v7 : Int} {u0 : Int} {M : bM} (h : b_wp (F_X6_ahead_b74 v1 v2 v3 v4 v6 v7 u0 M) (Sum.elim (A_X6_ahead_22 l E Q v1 v2 v3 v4 M) (X_X6_ahead_22 l E Q v1 v2 v3 v4 M))) : V l E xX6_ahead (0, 0) 74 [(0, bR 8), (1, bI v1), (2, bI v2), (3, bI v3), (4, bJ v4), (6, bI v6), (7, bI v7)] [bI u0] M (b_pIp M Q) := by
  unfold F_X6_ahead_b74 at h
  refine v_istore (i := 8) (ls' := [(8, bI _), (0, bR _), (1, bI _), (2, bI _), (3, bI _), (4, bJ _), (6, bI _), (7, bI _)]) (by decide) dX6_ahead_74 rfl ?_
  refine v_iload (i := 8) 0 rfl dX6_ahead_76 ?_
  refine v_if_eq (tgt := 114) dX6_ahead_78 (by decide) (fun c8 => ?_) (fun c8 => ?_)
  · replace h := b_wp_t c8 h
    obtain ⟨g9, h⟩ := b_wp_g h
    refine v_iincN (ls' := [(7, bI _), (8, bI _), (0, bR _), (1, bI _), (2, bI _), (3, bI _), (4, bJ _), (6, bI _)]) 7 rfl (by decide) g9 dX6_ahead_114 rfl ?_
    refine v_goto (tgt := 22) dX6_ahead_117 (by decide) ?_
    refine v_sub (ls2 := [(0, bR _), (1, bI _), (2, bI _), (3, bI _), (4, bJ _), (6, bI _), (7, bI _)]) [2, 3, 4, 5, 6, 7, 0] rfl ?_
    exact h
  · replace h := b_wp_f c8 h
    obtain ⟨g10, h⟩ := b_wp_g h
    refine v_aload_n (f := 0) 1 rfl dX6_ahead_81 ?_
    refine v_getR (kf := 1) (kz := 1) rfl kd_8 rfl ⟨by decide, by decide⟩ rfl wf_6_27 dX6_ahead_82 ?_
    refine v_aload_n (f := 0) 1 rfl dX6_ahead_85 ?_
    refine v_getR (kf := 3) (kz := 3) rfl kd_8 rfl ⟨by decide, by decide⟩ rfl wf_6_11 dX6_ahead_86 ?_
    refine v_iload (i := 7) 7 rfl dX6_ahead_89 ?_
    refine v_iaload kd_142 g10 (by decide) dX6_ahead_91 ?_
    refine v_lload (i := 4) 5 rfl dX6_ahead_92 ?_
    refine v_cVIp (nA := 2) (As := [bI _, bJ _]) (ix := 57) (cf_X5_isAmong (b_wp_b h)) rfl kd_3 rfl rfl wc_X5_isAmong wm_6_57 wi_X5_isAmong ws_X5_isAmong wn_5 ⟨by decide, by decide, by decide⟩ rfl ⟨by decide, by decide⟩ ⟨by decide, by decide⟩ (Nat.le_of_ble_eq_true rfl) dX6_ahead_94 (fun x11 h => ?_)
    refine v_if_eq (tgt := 114) dX6_ahead_97 (by decide) (fun c12 => ?_) (fun c12 => ?_)
    · replace h := b_wp_t c12 h
      obtain ⟨g13, h⟩ := b_wp_g h
      refine v_iincN (ls' := [(7, bI _), (8, bI _), (0, bR _), (1, bI _), (2, bI _), (3, bI _), (4, bJ _), (6, bI _)]) 7 rfl (by decide) g13 dX6_ahead_114 rfl ?_
      refine v_goto (tgt := 22) dX6_ahead_117 (by decide) ?_
      refine v_sub (ls2 := [(0, bR _), (1, bI _), (2, bI _), (3, bI _), (4, bJ _), (6, bI _), (7, bI _)]) [2, 3, 4, 5, 6, 7, 0] rfl ?_
      exact h
    · replace h := b_wp_f c12 h
      refine v_aload_n (f := 0) 1 rfl dX6_ahead_100 ?_
      refine v_iload (i := 7) 7 rfl dX6_ahead_101 ?_
      refine v_iload_n (f := 2) 3 rfl dX6_ahead_103 ?_
      refine v_iload_n (f := 3) 4 rfl dX6_ahead_104 ?_
      refine v_cVIp (nA := 3) (As := [bI _, bI _, bI _]) (ix := 61) (cf_X6_isStanding (b_wp_b h)) rfl kd_8 rfl rfl wc_X6_isStanding wm_6_61 wi_X6_isStanding ws_X6_isStanding wn_6 ⟨by decide, by decide, by decide⟩ rfl ⟨by decide, by decide⟩ ⟨by decide, by decide⟩ (Nat.le_of_ble_eq_true rfl) dX6_ahead_105 (fun x14 h => ?_)
      refine v_if_eq (tgt := 114) dX6_ahead_108 (by decide) (fun c15 => ?_) (fun c15 => ?_)
      · replace h := b_wp_t c15 h
        obtain ⟨g16, h⟩ := b_wp_g h
        refine v_iincN (ls' := [(7, bI _), (8, bI _), (0, bR _), (1, bI _), (2, bI _), (3, bI _), (4, bJ _), (6, bI _)]) 7 rfl (by decide) g16 dX6_ahead_114 rfl ?_
        refine v_goto (tgt := 22) dX6_ahead_117 (by decide) ?_
        refine v_sub (ls2 := [(0, bR _), (1, bI _), (2, bI _), (3, bI _), (4, bJ _), (6, bI _), (7, bI _)]) [2, 3, 4, 5, 6, 7, 0] rfl ?_
        exact h
      · replace h := b_wp_f c15 h
        obtain ⟨⟨g17, g18⟩, h⟩ := b_wp_g h
        refine v_iincN (ls' := [(6, bI _), (8, bI _), (0, bR _), (1, bI _), (2, bI _), (3, bI _), (4, bJ _), (7, bI _)]) 6 rfl (by decide) g17 dX6_ahead_111 rfl ?_
        refine v_iincN (ls' := [(7, bI _), (6, bI _), (8, bI _), (0, bR _), (1, bI _), (2, bI _), (3, bI _), (4, bJ _)]) 7 rfl (by decide) g18 dX6_ahead_114 rfl ?_
        refine v_goto (tgt := 22) dX6_ahead_117 (by decide) ?_
        refine v_sub (ls2 := [(0, bR _), (1, bI _), (2, bI _), (3, bI _), (4, bJ _), (6, bI _), (7, bI _)]) [3, 4, 5, 6, 7, 1, 0] rfl ?_
        exact h
noncomputable def F_X6_ahead_b69 (v1 : Int) (v2 : Int) (v3 : Int) (v4 : Int) (v6 : Int) (v7 : Int) (M : bM) : Option ((Int × Int) ⊕ (Int)) :=
  F_X6_ahead_b74 v1 v2 v3 v4 v6 v7 1 M
theorem t_X6_ahead_b69 {l : Launch} {E : bE} {Q : Int → Prop} {v1 : Int} {v2 : Int} {v3 : Int} {v4 : Int} {v6 : Int} {v7 : Int} {M : bM} (h : b_wp (F_X6_ahead_b69 v1 v2 v3 v4 v6 v7 M) (Sum.elim (A_X6_ahead_22 l E Q v1 v2 v3 v4 M) (X_X6_ahead_22 l E Q v1 v2 v3 v4 M))) : V l E xX6_ahead (0, 0) 69 [(0, bR 8), (1, bI v1), (2, bI v2), (3, bI v3), (4, bJ v4), (6, bI v6), (7, bI v7)] [] M (b_pIp M Q) := by
  unfold F_X6_ahead_b69 at h
  refine v_iconst ⟨by decide, by decide⟩ dX6_ahead_69 ?_
  refine v_goto (tgt := 74) dX6_ahead_70 (by decide) ?_
  exact t_X6_ahead_b74 h
noncomputable def F_X6_ahead_b73 (v1 : Int) (v2 : Int) (v3 : Int) (v4 : Int) (v6 : Int) (v7 : Int) (M : bM) : Option ((Int × Int) ⊕ (Int)) :=
  F_X6_ahead_b74 v1 v2 v3 v4 v6 v7 0 M
theorem t_X6_ahead_b73 {l : Launch} {E : bE} {Q : Int → Prop} {v1 : Int} {v2 : Int} {v3 : Int} {v4 : Int} {v6 : Int} {v7 : Int} {M : bM} (h : b_wp (F_X6_ahead_b73 v1 v2 v3 v4 v6 v7 M) (Sum.elim (A_X6_ahead_22 l E Q v1 v2 v3 v4 M) (X_X6_ahead_22 l E Q v1 v2 v3 v4 M))) : V l E xX6_ahead (0, 0) 73 [(0, bR 8), (1, bI v1), (2, bI v2), (3, bI v3), (4, bJ v4), (6, bI v6), (7, bI v7)] [] M (b_pIp M Q) := by
  unfold F_X6_ahead_b73 at h
  refine v_iconst ⟨by decide, by decide⟩ dX6_ahead_73 ?_
  exact t_X6_ahead_b74 h
noncomputable def F_X6_ahead_s22 (v1 : Int) (v2 : Int) (v3 : Int) (v4 : Int) (v6 : Int) (v7 : Int) (M : bM) : Option ((Int × Int) ⊕ (Int)) :=
  if (M 8 0) ≤ v7 then (some (.inr (v6))) else (b_g ((0 ≤ v7 ∧ v7 < 40) ∧ (0 ≤ v1 ∧ v1 < 40)) (if (M 143 v7) < (M 143 v1) then (F_X6_ahead_b69 v1 v2 v3 v4 v6 v7 M) else (b_g ((0 ≤ v7 ∧ v7 < 40) ∧ (0 ≤ v1 ∧ v1 < 40)) (if (M 143 v7) = (M 143 v1) then (if v1 ≤ v7 then (F_X6_ahead_b73 v1 v2 v3 v4 v6 v7 M) else (F_X6_ahead_b69 v1 v2 v3 v4 v6 v7 M)) else (F_X6_ahead_b73 v1 v2 v3 v4 v6 v7 M)))))
theorem t_X6_ahead_s22 {l : Launch} {E : bE} {Q : Int → Prop} {v1 : Int} {v2 : Int} {v3 : Int} {v4 : Int} {v6 : Int} {v7 : Int} {M : bM} (h : b_wp (F_X6_ahead_s22 v1 v2 v3 v4 v6 v7 M) (Sum.elim (A_X6_ahead_22 l E Q v1 v2 v3 v4 M) (X_X6_ahead_22 l E Q v1 v2 v3 v4 M))) : V l E xX6_ahead (0, 0) 22 [(0, bR 8), (1, bI v1), (2, bI v2), (3, bI v3), (4, bJ v4), (6, bI v6), (7, bI v7)] [] M (b_pIp M Q) := by
  unfold F_X6_ahead_s22 at h
  refine v_iload (i := 7) 6 rfl dX6_ahead_22 ?_
  refine v_aload_n (f := 0) 0 rfl dX6_ahead_24 ?_
  refine v_getI (kf := 0) (kz := 0) rfl kd_8 rfl ⟨by decide, by decide⟩ rfl wf_6_35 dX6_ahead_25 ?_
  refine v_icmp_ge (tgt := 120) dX6_ahead_28 (by decide) (fun c4 => ?_) (fun c4 => ?_)
  · replace h := b_wp_t c4 h
    refine v_sub (ls2 := [(6, bI _)]) [5] rfl ?_
    exact h
  · replace h := b_wp_f c4 h
    obtain ⟨⟨g5, g6⟩, h⟩ := b_wp_g h
    refine v_aload_n (f := 0) 0 rfl dX6_ahead_31 ?_
    refine v_getR (kf := 4) (kz := 4) rfl kd_8 rfl ⟨by decide, by decide⟩ rfl wf_6_15 dX6_ahead_32 ?_
    refine v_iload (i := 7) 6 rfl dX6_ahead_35 ?_
    refine v_iaload kd_143 g5 (by decide) dX6_ahead_37 ?_
    refine v_aload_n (f := 0) 0 rfl dX6_ahead_38 ?_
    refine v_getR (kf := 4) (kz := 4) rfl kd_8 rfl ⟨by decide, by decide⟩ rfl wf_6_15 dX6_ahead_39 ?_
    refine v_iload_n (f := 1) 1 rfl dX6_ahead_42 ?_
    refine v_iaload kd_143 g6 (by decide) dX6_ahead_43 ?_
    refine v_icmp_lt (tgt := 69) dX6_ahead_44 (by decide) (fun c7 => ?_) (fun c7 => ?_)
    · replace h := b_wp_t c7 h
      exact t_X6_ahead_b69 h
    · replace h := b_wp_f c7 h
      obtain ⟨⟨g19, g20⟩, h⟩ := b_wp_g h
      refine v_aload_n (f := 0) 0 rfl dX6_ahead_47 ?_
      refine v_getR (kf := 4) (kz := 4) rfl kd_8 rfl ⟨by decide, by decide⟩ rfl wf_6_15 dX6_ahead_48 ?_
      refine v_iload (i := 7) 6 rfl dX6_ahead_51 ?_
      refine v_iaload kd_143 g19 (by decide) dX6_ahead_53 ?_
      refine v_aload_n (f := 0) 0 rfl dX6_ahead_54 ?_
      refine v_getR (kf := 4) (kz := 4) rfl kd_8 rfl ⟨by decide, by decide⟩ rfl wf_6_15 dX6_ahead_55 ?_
      refine v_iload_n (f := 1) 1 rfl dX6_ahead_58 ?_
      refine v_iaload kd_143 g20 (by decide) dX6_ahead_59 ?_
      refine v_icmp_ne (tgt := 73) dX6_ahead_60 (by decide) (fun c21 => ?_) (fun c21 => ?_)
      · replace h := b_wp_f c21 h
        exact t_X6_ahead_b73 h
      · replace h := b_wp_t c21 h
        refine v_iload (i := 7) 6 rfl dX6_ahead_63 ?_
        refine v_iload_n (f := 1) 1 rfl dX6_ahead_65 ?_
        refine v_icmp_ge (tgt := 73) dX6_ahead_66 (by decide) (fun c22 => ?_) (fun c22 => ?_)
        · replace h := b_wp_t c22 h
          exact t_X6_ahead_b73 h
        · replace h := b_wp_f c22 h
          exact t_X6_ahead_b69 h
theorem l_X6_ahead_22 {l : Launch} {E : bE} {Q : Int → Prop} {v1 : Int} {v2 : Int} {v3 : Int} {v4 : Int} {M : bM} {s : Int × Int} (h : b_wp (b_loop (fun t => F_X6_ahead_s22 v1 v2 v3 v4 t.1 t.2 M) s) (X_X6_ahead_22 l E Q v1 v2 v3 v4 M)) : A_X6_ahead_22 l E Q v1 v2 v3 v4 M s := b_loop_wp (fun t h => t_X6_ahead_s22 h) s h
noncomputable def F_X6_ahead_b120 (v6 : Int) (M : bM) : Option (Int) :=
  some v6
theorem t_X6_ahead_b120 {l : Launch} {E : bE} {Q : Int → Prop} {v6 : Int} {M : bM} (h : b_wp (F_X6_ahead_b120 v6 M) (Q)) : V l E xX6_ahead (0, 0) 120 [(6, bI v6)] [] M (b_pIp M Q) := by
  unfold F_X6_ahead_b120 at h
  refine v_iload (i := 6) 0 rfl dX6_ahead_120 ?_
  refine v_ireturn rfl dX6_ahead_122 ⟨by decide, by decide⟩ ?_
  exact ⟨_, rfl, rfl, h⟩
noncomputable def F_X6_ahead (v1 : Int) (v2 : Int) (v3 : Int) (M : bM) : Option (Int) :=
  b_g ((0 ≤ v1 ∧ v1 < 40) ∧ (0 ≤ (M 142 v1) ∧ (M 142 v1) < 60)) (b_let ((M 91 (M 142 v1))) (fun y3 => b_bind (b_loop (fun t => F_X6_ahead_s22 v1 v2 v3 y3 t.1 t.2 M) (0, 0)) (fun t => F_X6_ahead_b120 t M)))
theorem t_X6_ahead {l : Launch} {E : bE} {Q : Int → Prop} {v1 : Int} {v2 : Int} {v3 : Int} {M : bM} (h : b_wp (F_X6_ahead v1 v2 v3 M) (Q)) : V l E xX6_ahead (0, 0) 0 [(0, bR 8), (1, bI v1), (2, bI v2), (3, bI v3)] [] M (b_pIp M Q) := by
  unfold F_X6_ahead at h
  obtain ⟨⟨g1, g2⟩, h⟩ := b_wp_g h
  refine v_aload_n (f := 0) 0 rfl dX6_ahead_0 ?_
  refine v_getR (kf := 1) (kz := 1) rfl kd_8 rfl ⟨by decide, by decide⟩ rfl wf_6_27 dX6_ahead_1 ?_
  refine v_getR (kf := 7) (kz := 7) rfl kd_3 rfl ⟨by decide, by decide⟩ rfl wf_6_51 dX6_ahead_4 ?_
  refine v_aload_n (f := 0) 0 rfl dX6_ahead_7 ?_
  refine v_getR (kf := 3) (kz := 3) rfl kd_8 rfl ⟨by decide, by decide⟩ rfl wf_6_11 dX6_ahead_8 ?_
  refine v_iload_n (f := 1) 1 rfl dX6_ahead_11 ?_
  refine v_iaload kd_142 g1 (by decide) dX6_ahead_12 ?_
  refine v_laload kd_91 g2 (by decide) dX6_ahead_13 ?_
  replace h := b_wp_l h
  refine v_lstore (i := 4) (ls' := [(4, bJ _), (0, bR _), (1, bI _), (2, bI _), (3, bI _)]) (by decide) dX6_ahead_14 rfl ?_
  refine v_iconst ⟨by decide, by decide⟩ dX6_ahead_16 ?_
  refine v_istore (i := 6) (ls' := [(6, bI _), (4, bJ _), (0, bR _), (1, bI _), (2, bI _), (3, bI _)]) (by decide) dX6_ahead_17 rfl ?_
  refine v_iconst ⟨by decide, by decide⟩ dX6_ahead_19 ?_
  refine v_istore (i := 7) (ls' := [(7, bI _), (6, bI _), (4, bJ _), (0, bR _), (1, bI _), (2, bI _), (3, bI _)]) (by decide) dX6_ahead_20 rfl ?_
  refine v_sub (ls2 := [(0, bR _), (1, bI _), (2, bI _), (3, bI _), (4, bJ _), (6, bI _), (7, bI _)]) [3, 4, 5, 6, 2, 1, 0] rfl ?_
  refine l_X6_ahead_22 (b_wp_m (fun t h => ?_) (b_wp_b h))
  show V l E xX6_ahead (0, 0) 120 [(6, bI _)] [] _ (b_pIp M Q)
  exact t_X6_ahead_b120 h
theorem cf_X6_ahead {l : Launch} {E : bE} {M : bM} {v1 : Int} {v2 : Int} {v3 : Int} {Q : Int → Prop} (h : b_wp (F_X6_ahead v1 v2 v3 M) Q) : b_C l E xX6_ahead yX6_ahead [bR 8, bI v1, bI v2, bI v3] M (b_pIp M Q) := b_met (by decide) ⟨rfl, rfl⟩ (Nat.le_of_ble_eq_true rfl) (fun _ _ => t_X6_ahead h)
abbrev xX11_rank : bX := ("BurntHall", prog_1_method_43_code, 4, (Option.some Jvm.ClassFile.FieldType.int), b_rm 5 0 0, 0, "rank")
abbrev yX11_rank : MethodName := ⟨"BurntHall", "rank", "(III)I"⟩
theorem dX11_rank_0 : decode prog_1_method_43_code 0 = .ok (.aload_n 0, 1) := by decide +kernel
theorem dX11_rank_1 : decode prog_1_method_43_code 1 = .ok (.getfield 69, 3) := by decide +kernel
theorem dX11_rank_4 : decode prog_1_method_43_code 4 = .ok (.iload_n 1, 1) := by decide +kernel
theorem dX11_rank_5 : decode prog_1_method_43_code 5 = .ok (.invokevirtual 312, 3) := by decide +kernel
theorem dX11_rank_8 : decode prog_1_method_43_code 8 = .ok (.ifCond .eq 17, 3) := by decide +kernel
theorem dX11_rank_11 : decode prog_1_method_43_code 11 = .ok (.iload_n 2, 1) := by decide +kernel
theorem dX11_rank_12 : decode prog_1_method_43_code 12 = .ok (.invokestatic 102, 3) := by decide +kernel
theorem dX11_rank_15 : decode prog_1_method_43_code 15 = .ok (.ifCond .eq 10, 3) := by decide +kernel
theorem dX11_rank_18 : decode prog_1_method_43_code 18 = .ok (.iload_n 3, 1) := by decide +kernel
theorem dX11_rank_19 : decode prog_1_method_43_code 19 = .ok (.invokestatic 102, 3) := by decide +kernel
theorem dX11_rank_22 : decode prog_1_method_43_code 22 = .ok (.ifCond .ne 6, 3) := by decide +kernel
theorem dX11_rank_25 : decode prog_1_method_43_code 25 = .ok (.bipush (-2), 2) := by decide +kernel
theorem dX11_rank_27 : decode prog_1_method_43_code 27 = .ok (.ireturn, 1) := by decide +kernel
theorem dX11_rank_28 : decode prog_1_method_43_code 28 = .ok (.aload_n 0, 1) := by decide +kernel
theorem dX11_rank_29 : decode prog_1_method_43_code 29 = .ok (.getfield 69, 3) := by decide +kernel
theorem dX11_rank_32 : decode prog_1_method_43_code 32 = .ok (.iload_n 1, 1) := by decide +kernel
theorem dX11_rank_33 : decode prog_1_method_43_code 33 = .ok (.iload_n 2, 1) := by decide +kernel
theorem dX11_rank_34 : decode prog_1_method_43_code 34 = .ok (.iload_n 3, 1) := by decide +kernel
theorem dX11_rank_35 : decode prog_1_method_43_code 35 = .ok (.invokevirtual 316, 3) := by decide +kernel
theorem dX11_rank_38 : decode prog_1_method_43_code 38 = .ok (.ifCond .eq 16, 3) := by decide +kernel
theorem dX11_rank_41 : decode prog_1_method_43_code 41 = .ok (.aload_n 0, 1) := by decide +kernel
theorem dX11_rank_42 : decode prog_1_method_43_code 42 = .ok (.getfield 69, 3) := by decide +kernel
theorem dX11_rank_45 : decode prog_1_method_43_code 45 = .ok (.iload_n 1, 1) := by decide +kernel
theorem dX11_rank_46 : decode prog_1_method_43_code 46 = .ok (.iload_n 2, 1) := by decide +kernel
theorem dX11_rank_47 : decode prog_1_method_43_code 47 = .ok (.iload_n 3, 1) := by decide +kernel
theorem dX11_rank_48 : decode prog_1_method_43_code 48 = .ok (.invokevirtual 320, 3) := by decide +kernel
theorem dX11_rank_51 : decode prog_1_method_43_code 51 = .ok (.goto 4, 3) := by decide +kernel
theorem dX11_rank_54 : decode prog_1_method_43_code 54 = .ok (.iconst (-1), 1) := by decide +kernel
theorem dX11_rank_55 : decode prog_1_method_43_code 55 = .ok (.ireturn, 1) := by decide +kernel
noncomputable def F_X11_rank (v1 : Int) (v2 : Int) (v3 : Int) (M : bM) : Option (Int) :=
  b_bind (F_X6_has v1 M) (fun x1 => if x1 = 0 then (some (-2)) else (b_bind (F_X11_isDay v2 M) (fun x3 => if x3 = 0 then (some (-2)) else (b_bind (F_X11_isDay v3 M) (fun x5 => if x5 = 0 then (some (-2)) else (b_bind (F_X6_isStanding v1 v2 v3 M) (fun x7 => if x7 = 0 then (some (-1)) else (b_bind (F_X6_ahead v1 v2 v3 M) (fun x9 => some x9)))))))))
theorem t_X11_rank {l : Launch} {E : bE} {Q : Int → Prop} {v1 : Int} {v2 : Int} {v3 : Int} {M : bM} (h : b_wp (F_X11_rank v1 v2 v3 M) (Q)) : V l E xX11_rank (0, 0) 0 [(0, bR 0), (1, bI v1), (2, bI v2), (3, bI v3)] [] M (b_pIp M Q) := by
  unfold F_X11_rank at h
  refine v_aload_n (f := 0) 0 rfl dX11_rank_0 ?_
  refine v_getR (kf := 7) (kz := 7) rfl kd_0 rfl ⟨by decide, by decide⟩ rfl wf_11_69 dX11_rank_1 ?_
  refine v_iload_n (f := 1) 1 rfl dX11_rank_4 ?_
  refine v_cVIp (nA := 1) (As := [bI _]) (ix := 312) (cf_X6_has (b_wp_b h)) rfl kd_8 rfl rfl wc_X6_has wm_11_312 wi_X6_has ws_X6_has wn_6 ⟨by decide, by decide, by decide⟩ rfl ⟨by decide, by decide⟩ ⟨by decide, by decide⟩ (Nat.le_of_ble_eq_true rfl) dX11_rank_5 (fun x1 h => ?_)
  refine v_if_eq (tgt := 25) dX11_rank_8 (by decide) (fun c2 => ?_) (fun c2 => ?_)
  · replace h := b_wp_t c2 h
    refine v_bipush ⟨by decide, by decide⟩ (by decide) dX11_rank_25 ?_
    refine v_ireturn rfl dX11_rank_27 ⟨by decide, by decide⟩ ?_
    exact ⟨_, rfl, rfl, h⟩
  · replace h := b_wp_f c2 h
    refine v_iload_n (f := 2) 2 rfl dX11_rank_11 ?_
    refine v_cSIp (nA := 1) (As := [bI _]) (ix := 102) (cf_X11_isDay (b_wp_b h)) rfl wc_X11_isDay wm_11_102 wi_X11_isDay wn_11 ⟨by decide, by decide, by decide⟩ rfl ⟨by decide, by decide⟩ ⟨by decide, by decide⟩ (Nat.le_of_ble_eq_true rfl) dX11_rank_12 (fun x3 h => ?_)
    refine v_if_eq (tgt := 25) dX11_rank_15 (by decide) (fun c4 => ?_) (fun c4 => ?_)
    · replace h := b_wp_t c4 h
      refine v_bipush ⟨by decide, by decide⟩ (by decide) dX11_rank_25 ?_
      refine v_ireturn rfl dX11_rank_27 ⟨by decide, by decide⟩ ?_
      exact ⟨_, rfl, rfl, h⟩
    · replace h := b_wp_f c4 h
      refine v_iload_n (f := 3) 3 rfl dX11_rank_18 ?_
      refine v_cSIp (nA := 1) (As := [bI _]) (ix := 102) (cf_X11_isDay (b_wp_b h)) rfl wc_X11_isDay wm_11_102 wi_X11_isDay wn_11 ⟨by decide, by decide, by decide⟩ rfl ⟨by decide, by decide⟩ ⟨by decide, by decide⟩ (Nat.le_of_ble_eq_true rfl) dX11_rank_19 (fun x5 h => ?_)
      refine v_if_ne (tgt := 28) dX11_rank_22 (by decide) (fun c6 => ?_) (fun c6 => ?_)
      · replace h := b_wp_f c6 h
        refine v_aload_n (f := 0) 0 rfl dX11_rank_28 ?_
        refine v_getR (kf := 7) (kz := 7) rfl kd_0 rfl ⟨by decide, by decide⟩ rfl wf_11_69 dX11_rank_29 ?_
        refine v_iload_n (f := 1) 1 rfl dX11_rank_32 ?_
        refine v_iload_n (f := 2) 2 rfl dX11_rank_33 ?_
        refine v_iload_n (f := 3) 3 rfl dX11_rank_34 ?_
        refine v_cVIp (nA := 3) (As := [bI _, bI _, bI _]) (ix := 316) (cf_X6_isStanding (b_wp_b h)) rfl kd_8 rfl rfl wc_X6_isStanding wm_11_316 wi_X6_isStanding ws_X6_isStanding wn_6 ⟨by decide, by decide, by decide⟩ rfl ⟨by decide, by decide⟩ ⟨by decide, by decide⟩ (Nat.le_of_ble_eq_true rfl) dX11_rank_35 (fun x7 h => ?_)
        refine v_if_eq (tgt := 54) dX11_rank_38 (by decide) (fun c8 => ?_) (fun c8 => ?_)
        · replace h := b_wp_t c8 h
          refine v_iconst ⟨by decide, by decide⟩ dX11_rank_54 ?_
          refine v_ireturn rfl dX11_rank_55 ⟨by decide, by decide⟩ ?_
          exact ⟨_, rfl, rfl, h⟩
        · replace h := b_wp_f c8 h
          refine v_aload_n (f := 0) 0 rfl dX11_rank_41 ?_
          refine v_getR (kf := 7) (kz := 7) rfl kd_0 rfl ⟨by decide, by decide⟩ rfl wf_11_69 dX11_rank_42 ?_
          refine v_iload_n (f := 1) 1 rfl dX11_rank_45 ?_
          refine v_iload_n (f := 2) 2 rfl dX11_rank_46 ?_
          refine v_iload_n (f := 3) 3 rfl dX11_rank_47 ?_
          refine v_cVIp (nA := 3) (As := [bI _, bI _, bI _]) (ix := 320) (cf_X6_ahead (b_wp_b h)) rfl kd_8 rfl rfl wc_X6_ahead wm_11_320 wi_X6_ahead ws_X6_ahead wn_6 ⟨by decide, by decide, by decide⟩ rfl ⟨by decide, by decide⟩ ⟨by decide, by decide⟩ (Nat.le_of_ble_eq_true rfl) dX11_rank_48 (fun x9 h => ?_)
          refine v_goto (tgt := 55) dX11_rank_51 (by decide) ?_
          refine v_ireturn rfl dX11_rank_55 ⟨by decide, by decide⟩ ?_
          exact ⟨_, rfl, rfl, h⟩
      · replace h := b_wp_t c6 h
        refine v_bipush ⟨by decide, by decide⟩ (by decide) dX11_rank_25 ?_
        refine v_ireturn rfl dX11_rank_27 ⟨by decide, by decide⟩ ?_
        exact ⟨_, rfl, rfl, h⟩
theorem cf_X11_rank {l : Launch} {E : bE} {M : bM} {v1 : Int} {v2 : Int} {v3 : Int} {Q : Int → Prop} (h : b_wp (F_X11_rank v1 v2 v3 M) Q) : b_C l E xX11_rank yX11_rank [bR 0, bI v1, bI v2, bI v3] M (b_pIp M Q) := b_met (by decide) ⟨rfl, rfl⟩ (Nat.le_of_ble_eq_true rfl) (fun _ _ => t_X11_rank h)
abbrev xX5_isThere : bX := ("BurntHall$Lots", prog_7_method_11_code, 3, (Option.some Jvm.ClassFile.FieldType.boolean), b_rm 3 0 0, 0, "isThere")
abbrev yX5_isThere : MethodName := ⟨"BurntHall$Lots", "isThere", "(II)Z"⟩
theorem dX5_isThere_0 : decode prog_7_method_11_code 0 = .ok (.aload_n 0, 1) := by decide +kernel
theorem dX5_isThere_1 : decode prog_7_method_11_code 1 = .ok (.iload_n 1, 1) := by decide +kernel
theorem dX5_isThere_2 : decode prog_7_method_11_code 2 = .ok (.iload_n 2, 1) := by decide +kernel
theorem dX5_isThere_3 : decode prog_7_method_11_code 3 = .ok (.iload_n 2, 1) := by decide +kernel
theorem dX5_isThere_4 : decode prog_7_method_11_code 4 = .ok (.invokevirtual 94, 3) := by decide +kernel
theorem dX5_isThere_7 : decode prog_7_method_11_code 7 = .ok (.ireturn, 1) := by decide +kernel
noncomputable def F_X5_isThere (v1 : Int) (v2 : Int) (M : bM) : Option (Int) :=
  b_bind (F_X5_isThereWithin v1 v2 v2 M) (fun x1 => b_g (x1 = 0 ∨ x1 = 1) (some x1))
theorem t_X5_isThere {l : Launch} {E : bE} {Q : Int → Prop} {v1 : Int} {v2 : Int} {M : bM} (h : b_wp (F_X5_isThere v1 v2 M) (Q)) : V l E xX5_isThere (0, 0) 0 [(0, bR 3), (1, bI v1), (2, bI v2)] [] M (b_pIp M Q) := by
  unfold F_X5_isThere at h
  refine v_aload_n (f := 0) 0 rfl dX5_isThere_0 ?_
  refine v_iload_n (f := 1) 1 rfl dX5_isThere_1 ?_
  refine v_iload_n (f := 2) 2 rfl dX5_isThere_2 ?_
  refine v_iload_n (f := 2) 2 rfl dX5_isThere_3 ?_
  refine v_cVIp (nA := 3) (As := [bI _, bI _, bI _]) (ix := 94) (cf_X5_isThereWithin (b_wp_b h)) rfl kd_3 rfl rfl wc_X5_isThereWithin wm_5_94 wi_X5_isThereWithin ws_X5_isThereWithin wn_5 ⟨by decide, by decide, by decide⟩ rfl ⟨by decide, by decide⟩ ⟨by decide, by decide⟩ (Nat.le_of_ble_eq_true rfl) dX5_isThere_4 (fun x1 h => ?_)
  obtain ⟨g2, h⟩ := b_wp_g h
  refine v_zreturn rfl g2 dX5_isThere_7 ⟨by decide, by decide⟩ ?_
  exact ⟨_, rfl, rfl, h⟩
theorem cf_X5_isThere {l : Launch} {E : bE} {M : bM} {v1 : Int} {v2 : Int} {Q : Int → Prop} (h : b_wp (F_X5_isThere v1 v2 M) Q) : b_C l E xX5_isThere yX5_isThere [bR 3, bI v1, bI v2] M (b_pIp M Q) := b_met (by decide) ⟨rfl, rfl⟩ (Nat.le_of_ble_eq_true rfl) (fun _ _ => t_X5_isThere h)
abbrev xX3_add : bX := ("BurntHall$Claims", prog_5_method_3_code, 4, (Option.some Jvm.ClassFile.FieldType.int), b_rm 1 0 0, 0, "add")
abbrev yX3_add : MethodName := ⟨"BurntHall$Claims", "add", "(III)I"⟩
theorem dX3_add_0 : decode prog_5_method_3_code 0 = .ok (.aload_n 0, 1) := by decide +kernel
theorem dX3_add_1 : decode prog_5_method_3_code 1 = .ok (.getfield 50, 3) := by decide +kernel
theorem dX3_add_4 : decode prog_5_method_3_code 4 = .ok (.bipush 30, 2) := by decide +kernel
theorem dX3_add_6 : decode prog_5_method_3_code 6 = .ok (.if_icmp .lt 6, 3) := by decide +kernel
theorem dX3_add_9 : decode prog_5_method_3_code 9 = .ok (.bipush (-3), 2) := by decide +kernel
theorem dX3_add_11 : decode prog_5_method_3_code 11 = .ok (.ireturn, 1) := by decide +kernel
theorem dX3_add_12 : decode prog_5_method_3_code 12 = .ok (.aload_n 0, 1) := by decide +kernel
theorem dX3_add_13 : decode prog_5_method_3_code 13 = .ok (.getfield 11, 3) := by decide +kernel
theorem dX3_add_16 : decode prog_5_method_3_code 16 = .ok (.aload_n 0, 1) := by decide +kernel
theorem dX3_add_17 : decode prog_5_method_3_code 17 = .ok (.getfield 50, 3) := by decide +kernel
theorem dX3_add_20 : decode prog_5_method_3_code 20 = .ok (.iload_n 1, 1) := by decide +kernel
theorem dX3_add_21 : decode prog_5_method_3_code 21 = .ok (.iastore, 1) := by decide +kernel
theorem dX3_add_22 : decode prog_5_method_3_code 22 = .ok (.aload_n 0, 1) := by decide +kernel
theorem dX3_add_23 : decode prog_5_method_3_code 23 = .ok (.getfield 15, 3) := by decide +kernel
theorem dX3_add_26 : decode prog_5_method_3_code 26 = .ok (.aload_n 0, 1) := by decide +kernel
theorem dX3_add_27 : decode prog_5_method_3_code 27 = .ok (.getfield 50, 3) := by decide +kernel
theorem dX3_add_30 : decode prog_5_method_3_code 30 = .ok (.iload_n 2, 1) := by decide +kernel
theorem dX3_add_31 : decode prog_5_method_3_code 31 = .ok (.iastore, 1) := by decide +kernel
theorem dX3_add_32 : decode prog_5_method_3_code 32 = .ok (.aload_n 0, 1) := by decide +kernel
theorem dX3_add_33 : decode prog_5_method_3_code 33 = .ok (.getfield 18, 3) := by decide +kernel
theorem dX3_add_36 : decode prog_5_method_3_code 36 = .ok (.aload_n 0, 1) := by decide +kernel
theorem dX3_add_37 : decode prog_5_method_3_code 37 = .ok (.getfield 50, 3) := by decide +kernel
theorem dX3_add_40 : decode prog_5_method_3_code 40 = .ok (.iload_n 3, 1) := by decide +kernel
theorem dX3_add_41 : decode prog_5_method_3_code 41 = .ok (.iastore, 1) := by decide +kernel
theorem dX3_add_42 : decode prog_5_method_3_code 42 = .ok (.aload_n 0, 1) := by decide +kernel
theorem dX3_add_43 : decode prog_5_method_3_code 43 = .ok (.dup, 1) := by decide +kernel
theorem dX3_add_44 : decode prog_5_method_3_code 44 = .ok (.getfield 50, 3) := by decide +kernel
theorem dX3_add_47 : decode prog_5_method_3_code 47 = .ok (.iconst 1, 1) := by decide +kernel
theorem dX3_add_48 : decode prog_5_method_3_code 48 = .ok (.iadd, 1) := by decide +kernel
theorem dX3_add_49 : decode prog_5_method_3_code 49 = .ok (.putfield 50, 3) := by decide +kernel
theorem dX3_add_52 : decode prog_5_method_3_code 52 = .ok (.aload_n 0, 1) := by decide +kernel
theorem dX3_add_53 : decode prog_5_method_3_code 53 = .ok (.getfield 50, 3) := by decide +kernel
theorem dX3_add_56 : decode prog_5_method_3_code 56 = .ok (.iconst 1, 1) := by decide +kernel
theorem dX3_add_57 : decode prog_5_method_3_code 57 = .ok (.isub, 1) := by decide +kernel
theorem dX3_add_58 : decode prog_5_method_3_code 58 = .ok (.ireturn, 1) := by decide +kernel
noncomputable def F_X3_add (v1 : Int) (v2 : Int) (v3 : Int) (M : bM) : Option (Int × bM) :=
  if (M 9 0) < 30 then (b_g (0 ≤ (M 9 0) ∧ (M 9 0) < 30) (b_let (b_up M 147 (M 9 0) v1) (fun M3 => b_g (0 ≤ (M3 9 0) ∧ (M3 9 0) < 30) (b_let (b_up M3 148 (M3 9 0) v2) (fun M5 => b_g (0 ≤ (M5 9 0) ∧ (M5 9 0) < 30) (b_let (b_up M5 149 (M5 9 0) v3) (fun M7 => b_g (b_i32 ((M7 9 0) + 1)) (b_let (b_up M7 9 0 ((M7 9 0) + 1)) (fun M9 => b_g (b_i32 ((M9 9 0) - 1)) (some (((M9 9 0) - 1), M9))))))))))) else (some ((-3), M))
theorem t_X3_add {l : Launch} {E : bE} {Q : (Int × bM) → Prop} {v1 : Int} {v2 : Int} {v3 : Int} {M : bM} (h : b_wp (F_X3_add v1 v2 v3 M) (Q)) : V l E xX3_add (0, 0) 0 [(0, bR 9), (1, bI v1), (2, bI v2), (3, bI v3)] [] M (b_pI Q) := by
  unfold F_X3_add at h
  refine v_aload_n (f := 0) 0 rfl dX3_add_0 ?_
  refine v_getI (kf := 0) (kz := 0) rfl kd_9 rfl ⟨by decide, by decide⟩ rfl wf_3_50 dX3_add_1 ?_
  refine v_bipush ⟨by decide, by decide⟩ (by decide) dX3_add_4 ?_
  refine v_icmp_lt (tgt := 12) dX3_add_6 (by decide) (fun c1 => ?_) (fun c1 => ?_)
  · replace h := b_wp_t c1 h
    obtain ⟨g2, h⟩ := b_wp_g h
    refine v_aload_n (f := 0) 0 rfl dX3_add_12 ?_
    refine v_getR (kf := 5) (kz := 5) rfl kd_9 rfl ⟨by decide, by decide⟩ rfl wf_3_11 dX3_add_13 ?_
    refine v_aload_n (f := 0) 0 rfl dX3_add_16 ?_
    refine v_getI (kf := 0) (kz := 0) rfl kd_9 rfl ⟨by decide, by decide⟩ rfl wf_3_50 dX3_add_17 ?_
    refine v_iload_n (f := 1) 1 rfl dX3_add_20 ?_
    refine v_iastore kd_147 g2 (by decide) dX3_add_21 ?_
    replace h := b_wp_l h
    obtain ⟨g4, h⟩ := b_wp_g h
    refine v_aload_n (f := 0) 0 rfl dX3_add_22 ?_
    refine v_getR (kf := 6) (kz := 6) rfl kd_9 rfl ⟨by decide, by decide⟩ rfl wf_3_15 dX3_add_23 ?_
    refine v_aload_n (f := 0) 0 rfl dX3_add_26 ?_
    refine v_getI (kf := 0) (kz := 0) rfl kd_9 rfl ⟨by decide, by decide⟩ rfl wf_3_50 dX3_add_27 ?_
    refine v_iload_n (f := 2) 2 rfl dX3_add_30 ?_
    refine v_iastore kd_148 g4 (by decide) dX3_add_31 ?_
    replace h := b_wp_l h
    obtain ⟨g6, h⟩ := b_wp_g h
    refine v_aload_n (f := 0) 0 rfl dX3_add_32 ?_
    refine v_getR (kf := 7) (kz := 7) rfl kd_9 rfl ⟨by decide, by decide⟩ rfl wf_3_18 dX3_add_33 ?_
    refine v_aload_n (f := 0) 0 rfl dX3_add_36 ?_
    refine v_getI (kf := 0) (kz := 0) rfl kd_9 rfl ⟨by decide, by decide⟩ rfl wf_3_50 dX3_add_37 ?_
    refine v_iload_n (f := 3) 3 rfl dX3_add_40 ?_
    refine v_iastore kd_149 g6 (by decide) dX3_add_41 ?_
    replace h := b_wp_l h
    obtain ⟨g8, h⟩ := b_wp_g h
    refine v_aload_n (f := 0) 0 rfl dX3_add_42 ?_
    refine v_dup rfl dX3_add_43 ?_
    refine v_getI (kf := 0) (kz := 0) rfl kd_9 rfl ⟨by decide, by decide⟩ rfl wf_3_50 dX3_add_44 ?_
    refine v_iconst ⟨by decide, by decide⟩ dX3_add_47 ?_
    refine v_iaddN g8 dX3_add_48 ?_
    refine v_putI (kf := 0) (kz := 0) rfl kd_9 rfl ⟨by decide, by decide⟩ rfl wf_3_50 rfl rfl dX3_add_49 ?_
    replace h := b_wp_l h
    obtain ⟨g10, h⟩ := b_wp_g h
    refine v_aload_n (f := 0) 0 rfl dX3_add_52 ?_
    refine v_getI (kf := 0) (kz := 0) rfl kd_9 rfl ⟨by decide, by decide⟩ rfl wf_3_50 dX3_add_53 ?_
    refine v_iconst ⟨by decide, by decide⟩ dX3_add_56 ?_
    refine v_isubN g10 dX3_add_57 ?_
    refine v_ireturn rfl dX3_add_58 ⟨by decide, by decide⟩ ?_
    exact ⟨_, rfl, h⟩
  · replace h := b_wp_f c1 h
    refine v_bipush ⟨by decide, by decide⟩ (by decide) dX3_add_9 ?_
    refine v_ireturn rfl dX3_add_11 ⟨by decide, by decide⟩ ?_
    exact ⟨_, rfl, h⟩
theorem cf_X3_add {l : Launch} {E : bE} {M : bM} {v1 : Int} {v2 : Int} {v3 : Int} {Q : (Int × bM) → Prop} (h : b_wp (F_X3_add v1 v2 v3 M) Q) : b_C l E xX3_add yX3_add [bR 9, bI v1, bI v2, bI v3] M (b_pI Q) := b_met (by decide) ⟨rfl, rfl⟩ (Nat.le_of_ble_eq_true rfl) (fun _ _ => t_X3_add h)
abbrev xX11_claim : bX := ("BurntHall", prog_1_method_44_code, 3, (Option.some Jvm.ClassFile.FieldType.int), b_rm 4 0 0, 0, "claim")
abbrev yX11_claim : MethodName := ⟨"BurntHall", "claim", "(II)I"⟩
theorem dX11_claim_0 : decode prog_1_method_44_code 0 = .ok (.aload_n 0, 1) := by decide +kernel
theorem dX11_claim_1 : decode prog_1_method_44_code 1 = .ok (.getfield 19, 3) := by decide +kernel
theorem dX11_claim_4 : decode prog_1_method_44_code 4 = .ok (.iload_n 1, 1) := by decide +kernel
theorem dX11_claim_5 : decode prog_1_method_44_code 5 = .ok (.invokevirtual 110, 3) := by decide +kernel
theorem dX11_claim_8 : decode prog_1_method_44_code 8 = .ok (.ifCond .eq 14, 3) := by decide +kernel
theorem dX11_claim_11 : decode prog_1_method_44_code 11 = .ok (.aload_n 0, 1) := by decide +kernel
theorem dX11_claim_12 : decode prog_1_method_44_code 12 = .ok (.getfield 26, 3) := by decide +kernel
theorem dX11_claim_15 : decode prog_1_method_44_code 15 = .ok (.iload_n 2, 1) := by decide +kernel
theorem dX11_claim_16 : decode prog_1_method_44_code 16 = .ok (.invokevirtual 146, 3) := by decide +kernel
theorem dX11_claim_19 : decode prog_1_method_44_code 19 = .ok (.ifCond .ne 6, 3) := by decide +kernel
theorem dX11_claim_22 : decode prog_1_method_44_code 22 = .ok (.bipush (-2), 2) := by decide +kernel
theorem dX11_claim_24 : decode prog_1_method_44_code 24 = .ok (.ireturn, 1) := by decide +kernel
theorem dX11_claim_25 : decode prog_1_method_44_code 25 = .ok (.aload_n 0, 1) := by decide +kernel
theorem dX11_claim_26 : decode prog_1_method_44_code 26 = .ok (.getfield 26, 3) := by decide +kernel
theorem dX11_claim_29 : decode prog_1_method_44_code 29 = .ok (.iload_n 2, 1) := by decide +kernel
theorem dX11_claim_30 : decode prog_1_method_44_code 30 = .ok (.aload_n 0, 1) := by decide +kernel
theorem dX11_claim_31 : decode prog_1_method_44_code 31 = .ok (.getfield 91, 3) := by decide +kernel
theorem dX11_claim_34 : decode prog_1_method_44_code 34 = .ok (.invokevirtual 323, 3) := by decide +kernel
theorem dX11_claim_37 : decode prog_1_method_44_code 37 = .ok (.ifCond .eq 19, 3) := by decide +kernel
theorem dX11_claim_40 : decode prog_1_method_44_code 40 = .ok (.aload_n 0, 1) := by decide +kernel
theorem dX11_claim_41 : decode prog_1_method_44_code 41 = .ok (.getfield 78, 3) := by decide +kernel
theorem dX11_claim_44 : decode prog_1_method_44_code 44 = .ok (.iload_n 1, 1) := by decide +kernel
theorem dX11_claim_45 : decode prog_1_method_44_code 45 = .ok (.iload_n 2, 1) := by decide +kernel
theorem dX11_claim_46 : decode prog_1_method_44_code 46 = .ok (.aload_n 0, 1) := by decide +kernel
theorem dX11_claim_47 : decode prog_1_method_44_code 47 = .ok (.getfield 91, 3) := by decide +kernel
theorem dX11_claim_50 : decode prog_1_method_44_code 50 = .ok (.invokevirtual 326, 3) := by decide +kernel
theorem dX11_claim_53 : decode prog_1_method_44_code 53 = .ok (.goto 5, 3) := by decide +kernel
theorem dX11_claim_56 : decode prog_1_method_44_code 56 = .ok (.bipush (-4), 2) := by decide +kernel
theorem dX11_claim_58 : decode prog_1_method_44_code 58 = .ok (.ireturn, 1) := by decide +kernel
noncomputable def F_X11_claim (v1 : Int) (v2 : Int) (M : bM) : Option (Int × bM) :=
  b_bind (F_X8_has v1 M) (fun x1 => if x1 = 0 then (some ((-2), M)) else (b_bind (F_X5_has v2 M) (fun x3 => if x3 = 0 then (some ((-2), M)) else (b_bind (F_X5_isThere v2 (M 0 10) M) (fun x5 => if x5 = 0 then (some ((-4), M)) else (b_bind (F_X3_add v1 v2 (M 0 10) M) (fun t => b_two t (fun x7 M8 => some (x7, M8)))))))))
theorem t_X11_claim {l : Launch} {E : bE} {Q : (Int × bM) → Prop} {v1 : Int} {v2 : Int} {M : bM} (h : b_wp (F_X11_claim v1 v2 M) (Q)) : V l E xX11_claim (0, 0) 0 [(0, bR 0), (1, bI v1), (2, bI v2)] [] M (b_pI Q) := by
  unfold F_X11_claim at h
  refine v_aload_n (f := 0) 0 rfl dX11_claim_0 ?_
  refine v_getR (kf := 1) (kz := 1) rfl kd_0 rfl ⟨by decide, by decide⟩ rfl wf_11_19 dX11_claim_1 ?_
  refine v_iload_n (f := 1) 1 rfl dX11_claim_4 ?_
  refine v_cVIp (nA := 1) (As := [bI _]) (ix := 110) (cf_X8_has (b_wp_b h)) rfl kd_2 rfl rfl wc_X8_has wm_11_110 wi_X8_has ws_X8_has wn_8 ⟨by decide, by decide, by decide⟩ rfl ⟨by decide, by decide⟩ ⟨by decide, by decide⟩ (Nat.le_of_ble_eq_true rfl) dX11_claim_5 (fun x1 h => ?_)
  refine v_if_eq (tgt := 22) dX11_claim_8 (by decide) (fun c2 => ?_) (fun c2 => ?_)
  · replace h := b_wp_t c2 h
    refine v_bipush ⟨by decide, by decide⟩ (by decide) dX11_claim_22 ?_
    refine v_ireturn rfl dX11_claim_24 ⟨by decide, by decide⟩ ?_
    exact ⟨_, rfl, h⟩
  · replace h := b_wp_f c2 h
    refine v_aload_n (f := 0) 0 rfl dX11_claim_11 ?_
    refine v_getR (kf := 2) (kz := 2) rfl kd_0 rfl ⟨by decide, by decide⟩ rfl wf_11_26 dX11_claim_12 ?_
    refine v_iload_n (f := 2) 2 rfl dX11_claim_15 ?_
    refine v_cVIp (nA := 1) (As := [bI _]) (ix := 146) (cf_X5_has (b_wp_b h)) rfl kd_3 rfl rfl wc_X5_has wm_11_146 wi_X5_has ws_X5_has wn_5 ⟨by decide, by decide, by decide⟩ rfl ⟨by decide, by decide⟩ ⟨by decide, by decide⟩ (Nat.le_of_ble_eq_true rfl) dX11_claim_16 (fun x3 h => ?_)
    refine v_if_ne (tgt := 25) dX11_claim_19 (by decide) (fun c4 => ?_) (fun c4 => ?_)
    · replace h := b_wp_f c4 h
      refine v_aload_n (f := 0) 0 rfl dX11_claim_25 ?_
      refine v_getR (kf := 2) (kz := 2) rfl kd_0 rfl ⟨by decide, by decide⟩ rfl wf_11_26 dX11_claim_26 ?_
      refine v_iload_n (f := 2) 2 rfl dX11_claim_29 ?_
      refine v_aload_n (f := 0) 0 rfl dX11_claim_30 ?_
      refine v_getI (kf := 10) (kz := 10) rfl kd_0 rfl ⟨by decide, by decide⟩ rfl wf_11_91 dX11_claim_31 ?_
      refine v_cVIp (nA := 2) (As := [bI _, bI _]) (ix := 323) (cf_X5_isThere (b_wp_b h)) rfl kd_3 rfl rfl wc_X5_isThere wm_11_323 wi_X5_isThere ws_X5_isThere wn_5 ⟨by decide, by decide, by decide⟩ rfl ⟨by decide, by decide⟩ ⟨by decide, by decide⟩ (Nat.le_of_ble_eq_true rfl) dX11_claim_34 (fun x5 h => ?_)
      refine v_if_eq (tgt := 56) dX11_claim_37 (by decide) (fun c6 => ?_) (fun c6 => ?_)
      · replace h := b_wp_t c6 h
        refine v_bipush ⟨by decide, by decide⟩ (by decide) dX11_claim_56 ?_
        refine v_ireturn rfl dX11_claim_58 ⟨by decide, by decide⟩ ?_
        exact ⟨_, rfl, h⟩
      · replace h := b_wp_f c6 h
        refine v_aload_n (f := 0) 0 rfl dX11_claim_40 ?_
        refine v_getR (kf := 8) (kz := 8) rfl kd_0 rfl ⟨by decide, by decide⟩ rfl wf_11_78 dX11_claim_41 ?_
        refine v_iload_n (f := 1) 1 rfl dX11_claim_44 ?_
        refine v_iload_n (f := 2) 2 rfl dX11_claim_45 ?_
        refine v_aload_n (f := 0) 0 rfl dX11_claim_46 ?_
        refine v_getI (kf := 10) (kz := 10) rfl kd_0 rfl ⟨by decide, by decide⟩ rfl wf_11_91 dX11_claim_47 ?_
        refine v_cVI (nA := 3) (As := [bI _, bI _, bI _]) (ix := 326) (cf_X3_add (b_wp_b h)) rfl kd_9 rfl rfl wc_X3_add wm_11_326 wi_X3_add ws_X3_add wn_3 ⟨by decide, by decide, by decide⟩ rfl ⟨by decide, by decide⟩ ⟨by decide, by decide⟩ (Nat.le_of_ble_eq_true rfl) dX11_claim_50 (fun x7 M8 h => ?_)
        replace h := b_wp_two h
        refine v_goto (tgt := 58) dX11_claim_53 (by decide) ?_
        refine v_ireturn rfl dX11_claim_58 ⟨by decide, by decide⟩ ?_
        exact ⟨_, rfl, h⟩
    · replace h := b_wp_t c4 h
      refine v_bipush ⟨by decide, by decide⟩ (by decide) dX11_claim_22 ?_
      refine v_ireturn rfl dX11_claim_24 ⟨by decide, by decide⟩ ?_
      exact ⟨_, rfl, h⟩
theorem cf_X11_claim {l : Launch} {E : bE} {M : bM} {v1 : Int} {v2 : Int} {Q : (Int × bM) → Prop} (h : b_wp (F_X11_claim v1 v2 M) Q) : b_C l E xX11_claim yX11_claim [bR 0, bI v1, bI v2] M (b_pI Q) := b_met (by decide) ⟨rfl, rfl⟩ (Nat.le_of_ble_eq_true rfl) (fun _ _ => t_X11_claim h)
abbrev xX3_isRuled : bX := ("BurntHall$Claims", prog_5_method_5_code, 2, (Option.some Jvm.ClassFile.FieldType.boolean), b_rm 1 0 0, 0, "isRuled")
abbrev yX3_isRuled : MethodName := ⟨"BurntHall$Claims", "isRuled", "(I)Z"⟩
theorem dX3_isRuled_0 : decode prog_5_method_5_code 0 = .ok (.aload_n 0, 1) := by decide +kernel
theorem dX3_isRuled_1 : decode prog_5_method_5_code 1 = .ok (.getfield 29, 3) := by decide +kernel
theorem dX3_isRuled_4 : decode prog_5_method_5_code 4 = .ok (.iload_n 1, 1) := by decide +kernel
theorem dX3_isRuled_5 : decode prog_5_method_5_code 5 = .ok (.iaload, 1) := by decide +kernel
theorem dX3_isRuled_6 : decode prog_5_method_5_code 6 = .ok (.ifCond .le 7, 3) := by decide +kernel
theorem dX3_isRuled_9 : decode prog_5_method_5_code 9 = .ok (.iconst 1, 1) := by decide +kernel
theorem dX3_isRuled_10 : decode prog_5_method_5_code 10 = .ok (.goto 4, 3) := by decide +kernel
theorem dX3_isRuled_13 : decode prog_5_method_5_code 13 = .ok (.iconst 0, 1) := by decide +kernel
theorem dX3_isRuled_14 : decode prog_5_method_5_code 14 = .ok (.ireturn, 1) := by decide +kernel
noncomputable def F_X3_isRuled (v1 : Int) (M : bM) : Option (Int) :=
  b_g (0 ≤ v1 ∧ v1 < 60) (if (M 152 v1) ≤ 0 then (some 0) else (some 1))
theorem t_X3_isRuled {l : Launch} {E : bE} {Q : Int → Prop} {v1 : Int} {M : bM} (h : b_wp (F_X3_isRuled v1 M) (Q)) : V l E xX3_isRuled (0, 0) 0 [(0, bR 9), (1, bI v1)] [] M (b_pIp M Q) := by
  unfold F_X3_isRuled at h
  obtain ⟨g1, h⟩ := b_wp_g h
  refine v_aload_n (f := 0) 0 rfl dX3_isRuled_0 ?_
  refine v_getR (kf := 10) (kz := 10) rfl kd_9 rfl ⟨by decide, by decide⟩ rfl wf_3_29 dX3_isRuled_1 ?_
  refine v_iload_n (f := 1) 1 rfl dX3_isRuled_4 ?_
  refine v_iaload kd_152 g1 (by decide) dX3_isRuled_5 ?_
  refine v_if_le (tgt := 13) dX3_isRuled_6 (by decide) (fun c2 => ?_) (fun c2 => ?_)
  · replace h := b_wp_t c2 h
    refine v_iconst ⟨by decide, by decide⟩ dX3_isRuled_13 ?_
    refine v_zreturn rfl (Or.inl rfl) dX3_isRuled_14 ⟨by decide, by decide⟩ ?_
    exact ⟨_, rfl, rfl, h⟩
  · replace h := b_wp_f c2 h
    refine v_iconst ⟨by decide, by decide⟩ dX3_isRuled_9 ?_
    refine v_goto (tgt := 14) dX3_isRuled_10 (by decide) ?_
    refine v_zreturn rfl (Or.inr rfl) dX3_isRuled_14 ⟨by decide, by decide⟩ ?_
    exact ⟨_, rfl, rfl, h⟩
theorem cf_X3_isRuled {l : Launch} {E : bE} {M : bM} {v1 : Int} {Q : Int → Prop} (h : b_wp (F_X3_isRuled v1 M) Q) : b_C l E xX3_isRuled yX3_isRuled [bR 9, bI v1] M (b_pIp M Q) := b_met (by decide) ⟨rfl, rfl⟩ (Nat.le_of_ble_eq_true rfl) (fun _ _ => t_X3_isRuled h)
abbrev xX3_appraise : bX := ("BurntHall$Claims", prog_5_method_12_code, 7, (Option.some Jvm.ClassFile.FieldType.int), b_rm 6 0 0, 0, "appraise")
abbrev yX3_appraise : MethodName := ⟨"BurntHall$Claims", "appraise", "(II)I"⟩
theorem dX3_appraise_0 : decode prog_5_method_12_code 0 = .ok (.aload_n 0, 1) := by decide +kernel
theorem dX3_appraise_1 : decode prog_5_method_12_code 1 = .ok (.getfield 38, 3) := by decide +kernel
theorem dX3_appraise_4 : decode prog_5_method_12_code 4 = .ok (.iload_n 2, 1) := by decide +kernel
theorem dX3_appraise_5 : decode prog_5_method_12_code 5 = .ok (.invokevirtual 74, 3) := by decide +kernel
theorem dX3_appraise_8 : decode prog_5_method_12_code 8 = .ok (.astore_n 3, 1) := by decide +kernel
theorem dX3_appraise_9 : decode prog_5_method_12_code 9 = .ok (.aload_n 0, 1) := by decide +kernel
theorem dX3_appraise_10 : decode prog_5_method_12_code 10 = .ok (.getfield 46, 3) := by decide +kernel
theorem dX3_appraise_13 : decode prog_5_method_12_code 13 = .ok (.aload_n 0, 1) := by decide +kernel
theorem dX3_appraise_14 : decode prog_5_method_12_code 14 = .ok (.getfield 15, 3) := by decide +kernel
theorem dX3_appraise_17 : decode prog_5_method_12_code 17 = .ok (.iload_n 1, 1) := by decide +kernel
theorem dX3_appraise_18 : decode prog_5_method_12_code 18 = .ok (.iaload, 1) := by decide +kernel
theorem dX3_appraise_19 : decode prog_5_method_12_code 19 = .ok (.aload_n 0, 1) := by decide +kernel
theorem dX3_appraise_20 : decode prog_5_method_12_code 20 = .ok (.getfield 11, 3) := by decide +kernel
theorem dX3_appraise_23 : decode prog_5_method_12_code 23 = .ok (.iload_n 1, 1) := by decide +kernel
theorem dX3_appraise_24 : decode prog_5_method_12_code 24 = .ok (.iaload, 1) := by decide +kernel
theorem dX3_appraise_25 : decode prog_5_method_12_code 25 = .ok (.invokevirtual 80, 3) := by decide +kernel
theorem dX3_appraise_28 : decode prog_5_method_12_code 28 = .ok (.iconst (-1), 1) := by decide +kernel
theorem dX3_appraise_29 : decode prog_5_method_12_code 29 = .ok (.if_icmp .eq 7, 3) := by decide +kernel
theorem dX3_appraise_32 : decode prog_5_method_12_code 32 = .ok (.iconst 1, 1) := by decide +kernel
theorem dX3_appraise_33 : decode prog_5_method_12_code 33 = .ok (.goto 4, 3) := by decide +kernel
theorem dX3_appraise_36 : decode prog_5_method_12_code 36 = .ok (.iconst 0, 1) := by decide +kernel
theorem dX3_appraise_37 : decode prog_5_method_12_code 37 = .ok (.istore 4, 2) := by decide +kernel
theorem dX3_appraise_39 : decode prog_5_method_12_code 39 = .ok (.aload_n 0, 1) := by decide +kernel
theorem dX3_appraise_40 : decode prog_5_method_12_code 40 = .ok (.iload 4, 2) := by decide +kernel
theorem dX3_appraise_42 : decode prog_5_method_12_code 42 = .ok (.ifCond .eq 15, 3) := by decide +kernel
theorem dX3_appraise_45 : decode prog_5_method_12_code 45 = .ok (.aload_n 0, 1) := by decide +kernel
theorem dX3_appraise_46 : decode prog_5_method_12_code 46 = .ok (.getfield 46, 3) := by decide +kernel
theorem dX3_appraise_49 : decode prog_5_method_12_code 49 = .ok (.getfield 85, 3) := by decide +kernel
theorem dX3_appraise_52 : decode prog_5_method_12_code 52 = .ok (.iconst 0, 1) := by decide +kernel
theorem dX3_appraise_53 : decode prog_5_method_12_code 53 = .ok (.iaload, 1) := by decide +kernel
theorem dX3_appraise_54 : decode prog_5_method_12_code 54 = .ok (.goto 5, 3) := by decide +kernel
theorem dX3_appraise_57 : decode prog_5_method_12_code 57 = .ok (.bipush 99, 2) := by decide +kernel
theorem dX3_appraise_59 : decode prog_5_method_12_code 59 = .ok (.putfield 88, 3) := by decide +kernel
theorem dX3_appraise_62 : decode prog_5_method_12_code 62 = .ok (.aload_n 0, 1) := by decide +kernel
theorem dX3_appraise_63 : decode prog_5_method_12_code 63 = .ok (.iload 4, 2) := by decide +kernel
theorem dX3_appraise_65 : decode prog_5_method_12_code 65 = .ok (.ifCond .eq 15, 3) := by decide +kernel
theorem dX3_appraise_68 : decode prog_5_method_12_code 68 = .ok (.aload_n 0, 1) := by decide +kernel
theorem dX3_appraise_69 : decode prog_5_method_12_code 69 = .ok (.getfield 46, 3) := by decide +kernel
theorem dX3_appraise_72 : decode prog_5_method_12_code 72 = .ok (.getfield 85, 3) := by decide +kernel
theorem dX3_appraise_75 : decode prog_5_method_12_code 75 = .ok (.iconst 1, 1) := by decide +kernel
theorem dX3_appraise_76 : decode prog_5_method_12_code 76 = .ok (.iaload, 1) := by decide +kernel
theorem dX3_appraise_77 : decode prog_5_method_12_code 77 = .ok (.goto 4, 3) := by decide +kernel
theorem dX3_appraise_80 : decode prog_5_method_12_code 80 = .ok (.iconst 0, 1) := by decide +kernel
theorem dX3_appraise_81 : decode prog_5_method_12_code 81 = .ok (.putfield 91, 3) := by decide +kernel
theorem dX3_appraise_84 : decode prog_5_method_12_code 84 = .ok (.iload 4, 2) := by decide +kernel
theorem dX3_appraise_86 : decode prog_5_method_12_code 86 = .ok (.ifCond .eq 19, 3) := by decide +kernel
theorem dX3_appraise_89 : decode prog_5_method_12_code 89 = .ok (.aload_n 0, 1) := by decide +kernel
theorem dX3_appraise_90 : decode prog_5_method_12_code 90 = .ok (.getfield 88, 3) := by decide +kernel
theorem dX3_appraise_93 : decode prog_5_method_12_code 93 = .ok (.aload_n 3, 1) := by decide +kernel
theorem dX3_appraise_94 : decode prog_5_method_12_code 94 = .ok (.iconst 3, 1) := by decide +kernel
theorem dX3_appraise_95 : decode prog_5_method_12_code 95 = .ok (.invokevirtual 96, 3) := by decide +kernel
theorem dX3_appraise_98 : decode prog_5_method_12_code 98 = .ok (.if_icmp .gt 7, 3) := by decide +kernel
theorem dX3_appraise_101 : decode prog_5_method_12_code 101 = .ok (.iconst 1, 1) := by decide +kernel
theorem dX3_appraise_102 : decode prog_5_method_12_code 102 = .ok (.goto 4, 3) := by decide +kernel
theorem dX3_appraise_105 : decode prog_5_method_12_code 105 = .ok (.iconst 0, 1) := by decide +kernel
theorem dX3_appraise_106 : decode prog_5_method_12_code 106 = .ok (.istore 5, 2) := by decide +kernel
theorem dX3_appraise_108 : decode prog_5_method_12_code 108 = .ok (.iload 5, 2) := by decide +kernel
theorem dX3_appraise_110 : decode prog_5_method_12_code 110 = .ok (.ifCond .eq 17, 3) := by decide +kernel
theorem dX3_appraise_113 : decode prog_5_method_12_code 113 = .ok (.aload_n 0, 1) := by decide +kernel
theorem dX3_appraise_114 : decode prog_5_method_12_code 114 = .ok (.getfield 91, 3) := by decide +kernel
theorem dX3_appraise_117 : decode prog_5_method_12_code 117 = .ok (.aload_n 3, 1) := by decide +kernel
theorem dX3_appraise_118 : decode prog_5_method_12_code 118 = .ok (.iconst 1, 1) := by decide +kernel
theorem dX3_appraise_119 : decode prog_5_method_12_code 119 = .ok (.invokevirtual 96, 3) := by decide +kernel
theorem dX3_appraise_122 : decode prog_5_method_12_code 122 = .ok (.if_icmp .lt 5, 3) := by decide +kernel
theorem dX3_appraise_125 : decode prog_5_method_12_code 125 = .ok (.iconst 1, 1) := by decide +kernel
theorem dX3_appraise_126 : decode prog_5_method_12_code 126 = .ok (.ireturn, 1) := by decide +kernel
theorem dX3_appraise_127 : decode prog_5_method_12_code 127 = .ok (.iload 5, 2) := by decide +kernel
theorem dX3_appraise_129 : decode prog_5_method_12_code 129 = .ok (.ifCond .eq 17, 3) := by decide +kernel
theorem dX3_appraise_132 : decode prog_5_method_12_code 132 = .ok (.aload_n 0, 1) := by decide +kernel
theorem dX3_appraise_133 : decode prog_5_method_12_code 133 = .ok (.getfield 91, 3) := by decide +kernel
theorem dX3_appraise_136 : decode prog_5_method_12_code 136 = .ok (.aload_n 3, 1) := by decide +kernel
theorem dX3_appraise_137 : decode prog_5_method_12_code 137 = .ok (.iconst 2, 1) := by decide +kernel
theorem dX3_appraise_138 : decode prog_5_method_12_code 138 = .ok (.invokevirtual 96, 3) := by decide +kernel
theorem dX3_appraise_141 : decode prog_5_method_12_code 141 = .ok (.if_icmp .lt 5, 3) := by decide +kernel
theorem dX3_appraise_144 : decode prog_5_method_12_code 144 = .ok (.iconst 2, 1) := by decide +kernel
theorem dX3_appraise_145 : decode prog_5_method_12_code 145 = .ok (.ireturn, 1) := by decide +kernel
theorem dX3_appraise_146 : decode prog_5_method_12_code 146 = .ok (.aload_n 0, 1) := by decide +kernel
theorem dX3_appraise_147 : decode prog_5_method_12_code 147 = .ok (.getfield 42, 3) := by decide +kernel
theorem dX3_appraise_150 : decode prog_5_method_12_code 150 = .ok (.aload_n 0, 1) := by decide +kernel
theorem dX3_appraise_151 : decode prog_5_method_12_code 151 = .ok (.getfield 15, 3) := by decide +kernel
theorem dX3_appraise_154 : decode prog_5_method_12_code 154 = .ok (.iload_n 1, 1) := by decide +kernel
theorem dX3_appraise_155 : decode prog_5_method_12_code 155 = .ok (.iaload, 1) := by decide +kernel
theorem dX3_appraise_156 : decode prog_5_method_12_code 156 = .ok (.aload_n 0, 1) := by decide +kernel
theorem dX3_appraise_157 : decode prog_5_method_12_code 157 = .ok (.getfield 11, 3) := by decide +kernel
theorem dX3_appraise_160 : decode prog_5_method_12_code 160 = .ok (.iload_n 1, 1) := by decide +kernel
theorem dX3_appraise_161 : decode prog_5_method_12_code 161 = .ok (.iaload, 1) := by decide +kernel
theorem dX3_appraise_162 : decode prog_5_method_12_code 162 = .ok (.iload_n 2, 1) := by decide +kernel
theorem dX3_appraise_163 : decode prog_5_method_12_code 163 = .ok (.sipush 365, 3) := by decide +kernel
theorem dX3_appraise_166 : decode prog_5_method_12_code 166 = .ok (.idiv, 1) := by decide +kernel
theorem dX3_appraise_167 : decode prog_5_method_12_code 167 = .ok (.invokevirtual 99, 3) := by decide +kernel
theorem dX3_appraise_170 : decode prog_5_method_12_code 170 = .ok (.istore 6, 2) := by decide +kernel
theorem dX3_appraise_172 : decode prog_5_method_12_code 172 = .ok (.iload 6, 2) := by decide +kernel
theorem dX3_appraise_174 : decode prog_5_method_12_code 174 = .ok (.aload_n 3, 1) := by decide +kernel
theorem dX3_appraise_175 : decode prog_5_method_12_code 175 = .ok (.iconst 5, 1) := by decide +kernel
theorem dX3_appraise_176 : decode prog_5_method_12_code 176 = .ok (.invokevirtual 96, 3) := by decide +kernel
theorem dX3_appraise_179 : decode prog_5_method_12_code 179 = .ok (.if_icmp .lt 7, 3) := by decide +kernel
theorem dX3_appraise_182 : decode prog_5_method_12_code 182 = .ok (.iconst 2, 1) := by decide +kernel
theorem dX3_appraise_183 : decode prog_5_method_12_code 183 = .ok (.goto 4, 3) := by decide +kernel
theorem dX3_appraise_186 : decode prog_5_method_12_code 186 = .ok (.iconst 3, 1) := by decide +kernel
theorem dX3_appraise_187 : decode prog_5_method_12_code 187 = .ok (.ireturn, 1) := by decide +kernel
noncomputable def F_X3_appraise_b146 (v1 : Int) (v2 : Int) (v3 : Nat) (M : bM) : Option (Int × bM) :=
  b_g (0 ≤ v1 ∧ v1 < 30) (b_bind (F_X4_yearsHeld (M 148 v1) (M 147 v1) (i_div v2 365) M) (fun x14 => b_g (12 ≤ v3 ∧ v3 < 22) (b_bind (F_X0_told_a v3 5 M) (fun x16 => if x14 < x16 then (some (3, M)) else (some (2, M))))))
theorem t_X3_appraise_b146 {l : Launch} {E : bE} {Q : (Int × bM) → Prop} {v1 : Int} {v2 : Int} {v3 : Nat} {M : bM} (h : b_wp (F_X3_appraise_b146 v1 v2 v3 M) (Q)) : V l E xX3_appraise (0, 0) 146 [(0, bR 9), (1, bI v1), (2, bI v2), (3, bR v3)] [] M (b_pI Q) := by
  unfold F_X3_appraise_b146 at h
  obtain ⟨g13, h⟩ := b_wp_g h
  refine v_aload_n (f := 0) 0 rfl dX3_appraise_146 ?_
  refine v_getR (kf := 3) (kz := 3) rfl kd_9 rfl ⟨by decide, by decide⟩ rfl wf_3_42 dX3_appraise_147 ?_
  refine v_aload_n (f := 0) 0 rfl dX3_appraise_150 ?_
  refine v_getR (kf := 6) (kz := 6) rfl kd_9 rfl ⟨by decide, by decide⟩ rfl wf_3_15 dX3_appraise_151 ?_
  refine v_iload_n (f := 1) 1 rfl dX3_appraise_154 ?_
  refine v_iaload kd_148 g13 (by decide) dX3_appraise_155 ?_
  refine v_aload_n (f := 0) 0 rfl dX3_appraise_156 ?_
  refine v_getR (kf := 5) (kz := 5) rfl kd_9 rfl ⟨by decide, by decide⟩ rfl wf_3_11 dX3_appraise_157 ?_
  refine v_iload_n (f := 1) 1 rfl dX3_appraise_160 ?_
  refine v_iaload kd_147 g13 (by decide) dX3_appraise_161 ?_
  refine v_iload_n (f := 2) 2 rfl dX3_appraise_162 ?_
  refine v_sipush ⟨by decide, by decide⟩ (by decide) dX3_appraise_163 ?_
  refine v_idiv (v := i_div _ _) (by decide) rfl dX3_appraise_166 ?_
  refine v_cVIp (nA := 3) (As := [bI _, bI _, bI _]) (ix := 99) (cf_X4_yearsHeld (b_wp_b h)) rfl kd_6 rfl rfl wc_X4_yearsHeld wm_3_99 wi_X4_yearsHeld ws_X4_yearsHeld wn_4 ⟨by decide, by decide, by decide⟩ rfl ⟨by decide, by decide⟩ ⟨by decide, by decide⟩ (Nat.le_of_ble_eq_true rfl) dX3_appraise_167 (fun x14 h => ?_)
  obtain ⟨g15, h⟩ := b_wp_g h
  refine v_istore (i := 6) (ls' := [(6, bI _), (0, bR _), (1, bI _), (2, bI _), (3, bR _)]) (by decide) dX3_appraise_170 rfl ?_
  refine v_iload (i := 6) 0 rfl dX3_appraise_172 ?_
  refine v_aload_n (f := 3) 4 rfl dX3_appraise_174 ?_
  refine v_iconst ⟨by decide, by decide⟩ dX3_appraise_175 ?_
  refine v_cVIp (nA := 1) (As := [bI _]) (ix := 96) (cf_X0_told_a (b_wp_b h)) rfl (kd_act0 g15) rfl rfl wc_X0_told wm_3_96 wi_X0_told ws_X0_told wn_0 ⟨by decide, by decide, by decide⟩ rfl ⟨by decide, by decide⟩ ⟨by decide, by decide⟩ (Nat.le_of_ble_eq_true rfl) dX3_appraise_176 (fun x16 h => ?_)
  refine v_icmp_lt (tgt := 186) dX3_appraise_179 (by decide) (fun c17 => ?_) (fun c17 => ?_)
  · replace h := b_wp_t c17 h
    refine v_iconst ⟨by decide, by decide⟩ dX3_appraise_186 ?_
    refine v_ireturn rfl dX3_appraise_187 ⟨by decide, by decide⟩ ?_
    exact ⟨_, rfl, h⟩
  · replace h := b_wp_f c17 h
    refine v_iconst ⟨by decide, by decide⟩ dX3_appraise_182 ?_
    refine v_goto (tgt := 187) dX3_appraise_183 (by decide) ?_
    refine v_ireturn rfl dX3_appraise_187 ⟨by decide, by decide⟩ ?_
    exact ⟨_, rfl, h⟩
noncomputable def F_X3_appraise_b127 (v1 : Int) (v2 : Int) (v3 : Nat) (v5 : Int) (M : bM) : Option (Int × bM) :=
  if v5 = 0 then (F_X3_appraise_b146 v1 v2 v3 M) else (b_g (12 ≤ v3 ∧ v3 < 22) (b_bind (F_X0_told_a v3 2 M) (fun x19 => if (M 9 14) < x19 then (F_X3_appraise_b146 v1 v2 v3 M) else (some (2, M)))))
theorem t_X3_appraise_b127 {l : Launch} {E : bE} {Q : (Int × bM) → Prop} {v1 : Int} {v2 : Int} {v3 : Nat} {v5 : Int} {M : bM} (h : b_wp (F_X3_appraise_b127 v1 v2 v3 v5 M) (Q)) : V l E xX3_appraise (0, 0) 127 [(0, bR 9), (1, bI v1), (2, bI v2), (3, bR v3), (5, bI v5)] [] M (b_pI Q) := by
  unfold F_X3_appraise_b127 at h
  refine v_iload (i := 5) 4 rfl dX3_appraise_127 ?_
  refine v_if_eq (tgt := 146) dX3_appraise_129 (by decide) (fun c12 => ?_) (fun c12 => ?_)
  · replace h := b_wp_t c12 h
    refine v_sub (ls2 := [(0, bR _), (1, bI _), (2, bI _), (3, bR _)]) [0, 1, 2, 3] rfl ?_
    exact t_X3_appraise_b146 h
  · replace h := b_wp_f c12 h
    obtain ⟨g18, h⟩ := b_wp_g h
    refine v_aload_n (f := 0) 0 rfl dX3_appraise_132 ?_
    refine v_getI (kf := 14) (kz := 14) rfl kd_9 rfl ⟨by decide, by decide⟩ rfl wf_3_91 dX3_appraise_133 ?_
    refine v_aload_n (f := 3) 3 rfl dX3_appraise_136 ?_
    refine v_iconst ⟨by decide, by decide⟩ dX3_appraise_137 ?_
    refine v_cVIp (nA := 1) (As := [bI _]) (ix := 96) (cf_X0_told_a (b_wp_b h)) rfl (kd_act0 g18) rfl rfl wc_X0_told wm_3_96 wi_X0_told ws_X0_told wn_0 ⟨by decide, by decide, by decide⟩ rfl ⟨by decide, by decide⟩ ⟨by decide, by decide⟩ (Nat.le_of_ble_eq_true rfl) dX3_appraise_138 (fun x19 h => ?_)
    refine v_icmp_lt (tgt := 146) dX3_appraise_141 (by decide) (fun c20 => ?_) (fun c20 => ?_)
    · replace h := b_wp_t c20 h
      refine v_sub (ls2 := [(0, bR _), (1, bI _), (2, bI _), (3, bR _)]) [0, 1, 2, 3] rfl ?_
      exact t_X3_appraise_b146 h
    · replace h := b_wp_f c20 h
      refine v_iconst ⟨by decide, by decide⟩ dX3_appraise_144 ?_
      refine v_ireturn rfl dX3_appraise_145 ⟨by decide, by decide⟩ ?_
      exact ⟨_, rfl, h⟩
noncomputable def F_X3_appraise_b106 (v1 : Int) (v2 : Int) (v3 : Nat) (u0 : Int) (M : bM) : Option (Int × bM) :=
  if u0 = 0 then (F_X3_appraise_b127 v1 v2 v3 u0 M) else (b_g (12 ≤ v3 ∧ v3 < 22) (b_bind (F_X0_told_a v3 1 M) (fun x22 => if (M 9 14) < x22 then (F_X3_appraise_b127 v1 v2 v3 u0 M) else (some (1, M)))))
theorem t_X3_appraise_b106 {l : Launch} {E : bE} {Q : (Int × bM) → Prop} {v1 : Int} {v2 : Int} {v3 : Nat} {u0 : Int} {M : bM} (h : b_wp (F_X3_appraise_b106 v1 v2 v3 u0 M) (Q)) : V l E xX3_appraise (0, 0) 106 [(0, bR 9), (1, bI v1), (2, bI v2), (3, bR v3)] [bI u0] M (b_pI Q) := by
  unfold F_X3_appraise_b106 at h
  refine v_istore (i := 5) (ls' := [(5, bI _), (0, bR _), (1, bI _), (2, bI _), (3, bR _)]) (by decide) dX3_appraise_106 rfl ?_
  refine v_iload (i := 5) 0 rfl dX3_appraise_108 ?_
  refine v_if_eq (tgt := 127) dX3_appraise_110 (by decide) (fun c11 => ?_) (fun c11 => ?_)
  · replace h := b_wp_t c11 h
    refine v_sub (ls2 := [(0, bR _), (1, bI _), (2, bI _), (3, bR _), (5, bI _)]) [1, 2, 3, 4, 0] rfl ?_
    exact t_X3_appraise_b127 h
  · replace h := b_wp_f c11 h
    obtain ⟨g21, h⟩ := b_wp_g h
    refine v_aload_n (f := 0) 1 rfl dX3_appraise_113 ?_
    refine v_getI (kf := 14) (kz := 14) rfl kd_9 rfl ⟨by decide, by decide⟩ rfl wf_3_91 dX3_appraise_114 ?_
    refine v_aload_n (f := 3) 4 rfl dX3_appraise_117 ?_
    refine v_iconst ⟨by decide, by decide⟩ dX3_appraise_118 ?_
    refine v_cVIp (nA := 1) (As := [bI _]) (ix := 96) (cf_X0_told_a (b_wp_b h)) rfl (kd_act0 g21) rfl rfl wc_X0_told wm_3_96 wi_X0_told ws_X0_told wn_0 ⟨by decide, by decide, by decide⟩ rfl ⟨by decide, by decide⟩ ⟨by decide, by decide⟩ (Nat.le_of_ble_eq_true rfl) dX3_appraise_119 (fun x22 h => ?_)
    refine v_icmp_lt (tgt := 127) dX3_appraise_122 (by decide) (fun c23 => ?_) (fun c23 => ?_)
    · replace h := b_wp_t c23 h
      refine v_sub (ls2 := [(0, bR _), (1, bI _), (2, bI _), (3, bR _), (5, bI _)]) [1, 2, 3, 4, 0] rfl ?_
      exact t_X3_appraise_b127 h
    · replace h := b_wp_f c23 h
      refine v_iconst ⟨by decide, by decide⟩ dX3_appraise_125 ?_
      refine v_ireturn rfl dX3_appraise_126 ⟨by decide, by decide⟩ ?_
      exact ⟨_, rfl, h⟩
noncomputable def F_X3_appraise_b105 (v1 : Int) (v2 : Int) (v3 : Nat) (M : bM) : Option (Int × bM) :=
  F_X3_appraise_b106 v1 v2 v3 0 M
theorem t_X3_appraise_b105 {l : Launch} {E : bE} {Q : (Int × bM) → Prop} {v1 : Int} {v2 : Int} {v3 : Nat} {M : bM} (h : b_wp (F_X3_appraise_b105 v1 v2 v3 M) (Q)) : V l E xX3_appraise (0, 0) 105 [(0, bR 9), (1, bI v1), (2, bI v2), (3, bR v3)] [] M (b_pI Q) := by
  unfold F_X3_appraise_b105 at h
  refine v_iconst ⟨by decide, by decide⟩ dX3_appraise_105 ?_
  exact t_X3_appraise_b106 h
noncomputable def F_X3_appraise_b81 (v1 : Int) (v2 : Int) (v3 : Nat) (v4 : Int) (u1 : Int) (M : bM) : Option (Int × bM) :=
  b_let (b_up M 9 14 u1) (fun M9 => if v4 = 0 then (F_X3_appraise_b105 v1 v2 v3 M9) else (b_g (12 ≤ v3 ∧ v3 < 22) (b_bind (F_X0_told_a v3 3 M9) (fun x25 => if x25 < (M9 9 13) then (F_X3_appraise_b105 v1 v2 v3 M9) else (F_X3_appraise_b106 v1 v2 v3 1 M9)))))
theorem t_X3_appraise_b81 {l : Launch} {E : bE} {Q : (Int × bM) → Prop} {v1 : Int} {v2 : Int} {v3 : Nat} {v4 : Int} {u1 : Int} {M : bM} (h : b_wp (F_X3_appraise_b81 v1 v2 v3 v4 u1 M) (Q)) : V l E xX3_appraise (0, 0) 81 [(0, bR 9), (1, bI v1), (2, bI v2), (3, bR v3), (4, bI v4)] [bI u1, bR 9] M (b_pI Q) := by
  unfold F_X3_appraise_b81 at h
  refine v_putI (kf := 14) (kz := 14) rfl kd_9 rfl ⟨by decide, by decide⟩ rfl wf_3_91 rfl rfl dX3_appraise_81 ?_
  replace h := b_wp_l h
  refine v_iload (i := 4) 4 rfl dX3_appraise_84 ?_
  refine v_if_eq (tgt := 105) dX3_appraise_86 (by decide) (fun c10 => ?_) (fun c10 => ?_)
  · replace h := b_wp_t c10 h
    refine v_sub (ls2 := [(0, bR _), (1, bI _), (2, bI _), (3, bR _)]) [0, 1, 2, 3] rfl ?_
    exact t_X3_appraise_b105 h
  · replace h := b_wp_f c10 h
    obtain ⟨g24, h⟩ := b_wp_g h
    refine v_aload_n (f := 0) 0 rfl dX3_appraise_89 ?_
    refine v_getI (kf := 13) (kz := 13) rfl kd_9 rfl ⟨by decide, by decide⟩ rfl wf_3_88 dX3_appraise_90 ?_
    refine v_aload_n (f := 3) 3 rfl dX3_appraise_93 ?_
    refine v_iconst ⟨by decide, by decide⟩ dX3_appraise_94 ?_
    refine v_cVIp (nA := 1) (As := [bI _]) (ix := 96) (cf_X0_told_a (b_wp_b h)) rfl (kd_act0 g24) rfl rfl wc_X0_told wm_3_96 wi_X0_told ws_X0_told wn_0 ⟨by decide, by decide, by decide⟩ rfl ⟨by decide, by decide⟩ ⟨by decide, by decide⟩ (Nat.le_of_ble_eq_true rfl) dX3_appraise_95 (fun x25 h => ?_)
    refine v_icmp_gt (tgt := 105) dX3_appraise_98 (by decide) (fun c26 => ?_) (fun c26 => ?_)
    · replace h := b_wp_t c26 h
      refine v_sub (ls2 := [(0, bR _), (1, bI _), (2, bI _), (3, bR _)]) [0, 1, 2, 3] rfl ?_
      exact t_X3_appraise_b105 h
    · replace h := b_wp_f c26 h
      refine v_iconst ⟨by decide, by decide⟩ dX3_appraise_101 ?_
      refine v_goto (tgt := 106) dX3_appraise_102 (by decide) ?_
      refine v_sub (ls2 := [(0, bR _), (1, bI _), (2, bI _), (3, bR _)]) [0, 1, 2, 3] rfl ?_
      exact t_X3_appraise_b106 h
noncomputable def F_X3_appraise_b59 (v1 : Int) (v2 : Int) (v3 : Nat) (v4 : Int) (u1 : Int) (M : bM) : Option (Int × bM) :=
  b_let (b_up M 9 13 u1) (fun M7 => if v4 = 0 then (F_X3_appraise_b81 v1 v2 v3 v4 0 M7) else (F_X3_appraise_b81 v1 v2 v3 v4 (M7 140 1) M7))
theorem t_X3_appraise_b59 {l : Launch} {E : bE} {Q : (Int × bM) → Prop} {v1 : Int} {v2 : Int} {v3 : Nat} {v4 : Int} {u1 : Int} {M : bM} (h : b_wp (F_X3_appraise_b59 v1 v2 v3 v4 u1 M) (Q)) : V l E xX3_appraise (0, 0) 59 [(0, bR 9), (1, bI v1), (2, bI v2), (3, bR v3), (4, bI v4)] [bI u1, bR 9] M (b_pI Q) := by
  unfold F_X3_appraise_b59 at h
  refine v_putI (kf := 13) (kz := 13) rfl kd_9 rfl ⟨by decide, by decide⟩ rfl wf_3_88 rfl rfl dX3_appraise_59 ?_
  replace h := b_wp_l h
  refine v_aload_n (f := 0) 0 rfl dX3_appraise_62 ?_
  refine v_iload (i := 4) 4 rfl dX3_appraise_63 ?_
  refine v_if_eq (tgt := 80) dX3_appraise_65 (by decide) (fun c8 => ?_) (fun c8 => ?_)
  · replace h := b_wp_t c8 h
    refine v_iconst ⟨by decide, by decide⟩ dX3_appraise_80 ?_
    exact t_X3_appraise_b81 h
  · replace h := b_wp_f c8 h
    refine v_aload_n (f := 0) 0 rfl dX3_appraise_68 ?_
    refine v_getR (kf := 4) (kz := 4) rfl kd_9 rfl ⟨by decide, by decide⟩ rfl wf_3_46 dX3_appraise_69 ?_
    refine v_getR (kf := 18) (kz := 18) rfl kd_7 rfl ⟨by decide, by decide⟩ rfl wf_3_85 dX3_appraise_72 ?_
    refine v_iconst ⟨by decide, by decide⟩ dX3_appraise_75 ?_
    refine v_iaload kd_140 ⟨by decide, by decide⟩ (by decide) dX3_appraise_76 ?_
    refine v_goto (tgt := 81) dX3_appraise_77 (by decide) ?_
    exact t_X3_appraise_b81 h
noncomputable def F_X3_appraise_b37 (v1 : Int) (v2 : Int) (v3 : Nat) (u0 : Int) (M : bM) : Option (Int × bM) :=
  if u0 = 0 then (F_X3_appraise_b59 v1 v2 v3 u0 99 M) else (F_X3_appraise_b59 v1 v2 v3 u0 (M 140 0) M)
theorem t_X3_appraise_b37 {l : Launch} {E : bE} {Q : (Int × bM) → Prop} {v1 : Int} {v2 : Int} {v3 : Nat} {u0 : Int} {M : bM} (h : b_wp (F_X3_appraise_b37 v1 v2 v3 u0 M) (Q)) : V l E xX3_appraise (0, 0) 37 [(0, bR 9), (1, bI v1), (2, bI v2), (3, bR v3)] [bI u0] M (b_pI Q) := by
  unfold F_X3_appraise_b37 at h
  refine v_istore (i := 4) (ls' := [(4, bI _), (0, bR _), (1, bI _), (2, bI _), (3, bR _)]) (by decide) dX3_appraise_37 rfl ?_
  refine v_aload_n (f := 0) 1 rfl dX3_appraise_39 ?_
  refine v_iload (i := 4) 0 rfl dX3_appraise_40 ?_
  refine v_if_eq (tgt := 57) dX3_appraise_42 (by decide) (fun c6 => ?_) (fun c6 => ?_)
  · replace h := b_wp_t c6 h
    refine v_bipush ⟨by decide, by decide⟩ (by decide) dX3_appraise_57 ?_
    refine v_sub (ls2 := [(0, bR _), (1, bI _), (2, bI _), (3, bR _), (4, bI _)]) [1, 2, 3, 4, 0] rfl ?_
    exact t_X3_appraise_b59 h
  · replace h := b_wp_f c6 h
    refine v_aload_n (f := 0) 1 rfl dX3_appraise_45 ?_
    refine v_getR (kf := 4) (kz := 4) rfl kd_9 rfl ⟨by decide, by decide⟩ rfl wf_3_46 dX3_appraise_46 ?_
    refine v_getR (kf := 18) (kz := 18) rfl kd_7 rfl ⟨by decide, by decide⟩ rfl wf_3_85 dX3_appraise_49 ?_
    refine v_iconst ⟨by decide, by decide⟩ dX3_appraise_52 ?_
    refine v_iaload kd_140 ⟨by decide, by decide⟩ (by decide) dX3_appraise_53 ?_
    refine v_goto (tgt := 59) dX3_appraise_54 (by decide) ?_
    refine v_sub (ls2 := [(0, bR _), (1, bI _), (2, bI _), (3, bR _), (4, bI _)]) [1, 2, 3, 4, 0] rfl ?_
    exact t_X3_appraise_b59 h
noncomputable def F_X3_appraise (v1 : Int) (v2 : Int) (M : bM) : Option (Int × bM) :=
  b_bind (F_X1_inForce v2 M) (fun x1 => b_g (0 ≤ v1 ∧ v1 < 30) (b_bind (F_X2_search (M 148 v1) (M 147 v1) M) (fun t => b_two t (fun x3 M4 => if x3 = (-1) then (F_X3_appraise_b37 v1 v2 x1 0 M4) else (F_X3_appraise_b37 v1 v2 x1 1 M4)))))
theorem t_X3_appraise {l : Launch} {E : bE} {Q : (Int × bM) → Prop} {v1 : Int} {v2 : Int} {M : bM} (h : b_wp (F_X3_appraise v1 v2 M) (Q)) : V l E xX3_appraise (0, 0) 0 [(0, bR 9), (1, bI v1), (2, bI v2)] [] M (b_pI Q) := by
  unfold F_X3_appraise at h
  refine v_aload_n (f := 0) 0 rfl dX3_appraise_0 ?_
  refine v_getR (kf := 2) (kz := 2) rfl kd_9 rfl ⟨by decide, by decide⟩ rfl wf_3_38 dX3_appraise_1 ?_
  refine v_iload_n (f := 2) 2 rfl dX3_appraise_4 ?_
  refine v_cVAp (nA := 1) (As := [bI _]) (ix := 74) (cf_X1_inForce (b_wp_b h)) rfl kd_4 rfl rfl wc_X1_inForce wm_3_74 wi_X1_inForce ws_X1_inForce wn_1 ⟨by decide, by decide, by decide⟩ rfl ⟨by decide, by decide⟩ ⟨by decide, by decide⟩ (Nat.le_of_ble_eq_true rfl) dX3_appraise_5 (fun x1 h => ?_)
  obtain ⟨g2, h⟩ := b_wp_g h
  refine v_astore_n (g := 3) (i := 3) (ls' := [(3, bR _), (0, bR _), (1, bI _), (2, bI _)]) rfl (by decide) dX3_appraise_8 rfl ?_
  refine v_aload_n (f := 0) 1 rfl dX3_appraise_9 ?_
  refine v_getR (kf := 4) (kz := 4) rfl kd_9 rfl ⟨by decide, by decide⟩ rfl wf_3_46 dX3_appraise_10 ?_
  refine v_aload_n (f := 0) 1 rfl dX3_appraise_13 ?_
  refine v_getR (kf := 6) (kz := 6) rfl kd_9 rfl ⟨by decide, by decide⟩ rfl wf_3_15 dX3_appraise_14 ?_
  refine v_iload_n (f := 1) 2 rfl dX3_appraise_17 ?_
  refine v_iaload kd_148 g2 (by decide) dX3_appraise_18 ?_
  refine v_aload_n (f := 0) 1 rfl dX3_appraise_19 ?_
  refine v_getR (kf := 5) (kz := 5) rfl kd_9 rfl ⟨by decide, by decide⟩ rfl wf_3_11 dX3_appraise_20 ?_
  refine v_iload_n (f := 1) 2 rfl dX3_appraise_23 ?_
  refine v_iaload kd_147 g2 (by decide) dX3_appraise_24 ?_
  refine v_cVI (nA := 2) (As := [bI _, bI _]) (ix := 80) (cf_X2_search (b_wp_b h)) rfl kd_7 rfl rfl wc_X2_search wm_3_80 wi_X2_search ws_X2_search wn_2 ⟨by decide, by decide, by decide⟩ rfl ⟨by decide, by decide⟩ ⟨by decide, by decide⟩ (Nat.le_of_ble_eq_true rfl) dX3_appraise_25 (fun x3 M4 h => ?_)
  replace h := b_wp_two h
  refine v_iconst ⟨by decide, by decide⟩ dX3_appraise_28 ?_
  refine v_icmp_eq (tgt := 36) dX3_appraise_29 (by decide) (fun c5 => ?_) (fun c5 => ?_)
  · replace h := b_wp_t c5 h
    refine v_iconst ⟨by decide, by decide⟩ dX3_appraise_36 ?_
    refine v_sub (ls2 := [(0, bR _), (1, bI _), (2, bI _), (3, bR _)]) [1, 2, 3, 0] rfl ?_
    exact t_X3_appraise_b37 h
  · replace h := b_wp_f c5 h
    refine v_iconst ⟨by decide, by decide⟩ dX3_appraise_32 ?_
    refine v_goto (tgt := 37) dX3_appraise_33 (by decide) ?_
    refine v_sub (ls2 := [(0, bR _), (1, bI _), (2, bI _), (3, bR _)]) [1, 2, 3, 0] rfl ?_
    exact t_X3_appraise_b37 h
theorem cf_X3_appraise {l : Launch} {E : bE} {M : bM} {v1 : Int} {v2 : Int} {Q : (Int × bM) → Prop} (h : b_wp (F_X3_appraise v1 v2 M) Q) : b_C l E xX3_appraise yX3_appraise [bR 9, bI v1, bI v2] M (b_pI Q) := b_met (by decide) ⟨rfl, rfl⟩ (Nat.le_of_ble_eq_true rfl) (fun _ _ => t_X3_appraise h)
abbrev xX3_award : bX := ("BurntHall$Claims", prog_5_method_14_code, 5, (Option.none : Option Jvm.ClassFile.FieldType), b_rm 3 0 0, 0, "award")
abbrev yX3_award : MethodName := ⟨"BurntHall$Claims", "award", "(IIII)V"⟩
theorem dX3_award_0 : decode prog_5_method_14_code 0 = .ok (.aload_n 0, 1) := by decide +kernel
theorem dX3_award_1 : decode prog_5_method_14_code 1 = .ok (.getfield 21, 3) := by decide +kernel
theorem dX3_award_4 : decode prog_5_method_14_code 4 = .ok (.iload_n 2, 1) := by decide +kernel
theorem dX3_award_5 : decode prog_5_method_14_code 5 = .ok (.iload_n 3, 1) := by decide +kernel
theorem dX3_award_6 : decode prog_5_method_14_code 6 = .ok (.iastore, 1) := by decide +kernel
theorem dX3_award_7 : decode prog_5_method_14_code 7 = .ok (.aload_n 0, 1) := by decide +kernel
theorem dX3_award_8 : decode prog_5_method_14_code 8 = .ok (.getfield 29, 3) := by decide +kernel
theorem dX3_award_11 : decode prog_5_method_14_code 11 = .ok (.iload_n 1, 1) := by decide +kernel
theorem dX3_award_12 : decode prog_5_method_14_code 12 = .ok (.iload_n 2, 1) := by decide +kernel
theorem dX3_award_13 : decode prog_5_method_14_code 13 = .ok (.iconst 1, 1) := by decide +kernel
theorem dX3_award_14 : decode prog_5_method_14_code 14 = .ok (.iadd, 1) := by decide +kernel
theorem dX3_award_15 : decode prog_5_method_14_code 15 = .ok (.iastore, 1) := by decide +kernel
theorem dX3_award_16 : decode prog_5_method_14_code 16 = .ok (.aload_n 0, 1) := by decide +kernel
theorem dX3_award_17 : decode prog_5_method_14_code 17 = .ok (.getfield 32, 3) := by decide +kernel
theorem dX3_award_20 : decode prog_5_method_14_code 20 = .ok (.iload_n 1, 1) := by decide +kernel
theorem dX3_award_21 : decode prog_5_method_14_code 21 = .ok (.iload 4, 2) := by decide +kernel
theorem dX3_award_23 : decode prog_5_method_14_code 23 = .ok (.iastore, 1) := by decide +kernel
theorem dX3_award_24 : decode prog_5_method_14_code 24 = .ok (.aload_n 0, 1) := by decide +kernel
theorem dX3_award_25 : decode prog_5_method_14_code 25 = .ok (.getfield 35, 3) := by decide +kernel
theorem dX3_award_28 : decode prog_5_method_14_code 28 = .ok (.iload_n 1, 1) := by decide +kernel
theorem dX3_award_29 : decode prog_5_method_14_code 29 = .ok (.aload_n 0, 1) := by decide +kernel
theorem dX3_award_30 : decode prog_5_method_14_code 30 = .ok (.getfield 38, 3) := by decide +kernel
theorem dX3_award_33 : decode prog_5_method_14_code 33 = .ok (.iload 4, 2) := by decide +kernel
theorem dX3_award_35 : decode prog_5_method_14_code 35 = .ok (.invokevirtual 74, 3) := by decide +kernel
theorem dX3_award_38 : decode prog_5_method_14_code 38 = .ok (.bipush 6, 2) := by decide +kernel
theorem dX3_award_40 : decode prog_5_method_14_code 40 = .ok (.invokevirtual 96, 3) := by decide +kernel
theorem dX3_award_43 : decode prog_5_method_14_code 43 = .ok (.sipush 365, 3) := by decide +kernel
theorem dX3_award_46 : decode prog_5_method_14_code 46 = .ok (.imul, 1) := by decide +kernel
theorem dX3_award_47 : decode prog_5_method_14_code 47 = .ok (.iastore, 1) := by decide +kernel
theorem dX3_award_48 : decode prog_5_method_14_code 48 = .ok (.return_, 1) := by decide +kernel
noncomputable def F_X3_award (v1 : Int) (v2 : Int) (v3 : Int) (v4 : Int) (M : bM) : Option (bM) :=
  b_g (0 ≤ v2 ∧ v2 < 30) (b_let (b_up M 150 v2 v3) (fun M2 => b_g ((b_i32 (v2 + 1)) ∧ (0 ≤ v1 ∧ v1 < 60)) (b_let (b_up M2 152 v1 (v2 + 1)) (fun M5 => b_g (0 ≤ v1 ∧ v1 < 60) (b_let (b_up M5 153 v1 v4) (fun M7 => b_bind (F_X1_inForce v4 M7) (fun x8 => b_g (12 ≤ x8 ∧ x8 < 22) (b_bind (F_X0_told_a x8 6 M7) (fun x10 => b_g ((b_i32 (x10 * 365)) ∧ (0 ≤ v1 ∧ v1 < 60)) (b_let (b_up M7 154 v1 (x10 * 365)) (fun M13 => some M13)))))))))))
theorem t_X3_award {l : Launch} {E : bE} {Q : bM → Prop} {v1 : Int} {v2 : Int} {v3 : Int} {v4 : Int} {M : bM} (h : b_wp (F_X3_award v1 v2 v3 v4 M) (Q)) : V l E xX3_award (0, 0) 0 [(0, bR 9), (1, bI v1), (2, bI v2), (3, bI v3), (4, bI v4)] [] M (b_pV Q) := by
  unfold F_X3_award at h
  obtain ⟨g1, h⟩ := b_wp_g h
  refine v_aload_n (f := 0) 0 rfl dX3_award_0 ?_
  refine v_getR (kf := 8) (kz := 8) rfl kd_9 rfl ⟨by decide, by decide⟩ rfl wf_3_21 dX3_award_1 ?_
  refine v_iload_n (f := 2) 2 rfl dX3_award_4 ?_
  refine v_iload_n (f := 3) 3 rfl dX3_award_5 ?_
  refine v_iastore kd_150 g1 (by decide) dX3_award_6 ?_
  replace h := b_wp_l h
  obtain ⟨⟨g3, g4⟩, h⟩ := b_wp_g h
  refine v_aload_n (f := 0) 0 rfl dX3_award_7 ?_
  refine v_getR (kf := 10) (kz := 10) rfl kd_9 rfl ⟨by decide, by decide⟩ rfl wf_3_29 dX3_award_8 ?_
  refine v_iload_n (f := 1) 1 rfl dX3_award_11 ?_
  refine v_iload_n (f := 2) 2 rfl dX3_award_12 ?_
  refine v_iconst ⟨by decide, by decide⟩ dX3_award_13 ?_
  refine v_iaddN g3 dX3_award_14 ?_
  refine v_iastore kd_152 g4 (by decide) dX3_award_15 ?_
  replace h := b_wp_l h
  obtain ⟨g6, h⟩ := b_wp_g h
  refine v_aload_n (f := 0) 0 rfl dX3_award_16 ?_
  refine v_getR (kf := 11) (kz := 11) rfl kd_9 rfl ⟨by decide, by decide⟩ rfl wf_3_32 dX3_award_17 ?_
  refine v_iload_n (f := 1) 1 rfl dX3_award_20 ?_
  refine v_iload (i := 4) 4 rfl dX3_award_21 ?_
  refine v_iastore kd_153 g6 (by decide) dX3_award_23 ?_
  replace h := b_wp_l h
  refine v_aload_n (f := 0) 0 rfl dX3_award_24 ?_
  refine v_getR (kf := 12) (kz := 12) rfl kd_9 rfl ⟨by decide, by decide⟩ rfl wf_3_35 dX3_award_25 ?_
  refine v_iload_n (f := 1) 1 rfl dX3_award_28 ?_
  refine v_aload_n (f := 0) 0 rfl dX3_award_29 ?_
  refine v_getR (kf := 2) (kz := 2) rfl kd_9 rfl ⟨by decide, by decide⟩ rfl wf_3_38 dX3_award_30 ?_
  refine v_iload (i := 4) 4 rfl dX3_award_33 ?_
  refine v_cVAp (nA := 1) (As := [bI _]) (ix := 74) (cf_X1_inForce (b_wp_b h)) rfl kd_4 rfl rfl wc_X1_inForce wm_3_74 wi_X1_inForce ws_X1_inForce wn_1 ⟨by decide, by decide, by decide⟩ rfl ⟨by decide, by decide⟩ ⟨by decide, by decide⟩ (Nat.le_of_ble_eq_true rfl) dX3_award_35 (fun x8 h => ?_)
  obtain ⟨g9, h⟩ := b_wp_g h
  refine v_bipush ⟨by decide, by decide⟩ (by decide) dX3_award_38 ?_
  refine v_cVIp (nA := 1) (As := [bI _]) (ix := 96) (cf_X0_told_a (b_wp_b h)) rfl (kd_act0 g9) rfl rfl wc_X0_told wm_3_96 wi_X0_told ws_X0_told wn_0 ⟨by decide, by decide, by decide⟩ rfl ⟨by decide, by decide⟩ ⟨by decide, by decide⟩ (Nat.le_of_ble_eq_true rfl) dX3_award_40 (fun x10 h => ?_)
  obtain ⟨⟨g11, g12⟩, h⟩ := b_wp_g h
  refine v_sipush ⟨by decide, by decide⟩ (by decide) dX3_award_43 ?_
  refine v_imulN g11 dX3_award_46 ?_
  refine v_iastore kd_154 g12 (by decide) dX3_award_47 ?_
  replace h := b_wp_l h
  refine v_return rfl dX3_award_48 ⟨by decide, by decide⟩ ?_
  exact ⟨rfl, h⟩
theorem cf_X3_award {l : Launch} {E : bE} {M : bM} {v1 : Int} {v2 : Int} {v3 : Int} {v4 : Int} {Q : bM → Prop} (h : b_wp (F_X3_award v1 v2 v3 v4 M) Q) : b_C l E xX3_award yX3_award [bR 9, bI v1, bI v2, bI v3, bI v4] M (b_pV Q) := b_met (by decide) ⟨rfl, rfl⟩ (Nat.le_of_ble_eq_true rfl) (fun _ _ => t_X3_award h)
abbrev xX3_hear : bX := ("BurntHall$Claims", prog_5_method_13_code, 12, (Option.some Jvm.ClassFile.FieldType.int), b_rm 7 0 0, 0, "hear")
abbrev yX3_hear : MethodName := ⟨"BurntHall$Claims", "hear", "(II)I"⟩
theorem dX3_hear_0 : decode prog_5_method_13_code 0 = .ok (.aload_n 0, 1) := by decide +kernel
theorem dX3_hear_1 : decode prog_5_method_13_code 1 = .ok (.getfield 38, 3) := by decide +kernel
theorem dX3_hear_4 : decode prog_5_method_13_code 4 = .ok (.iload_n 2, 1) := by decide +kernel
theorem dX3_hear_5 : decode prog_5_method_13_code 5 = .ok (.invokevirtual 74, 3) := by decide +kernel
theorem dX3_hear_8 : decode prog_5_method_13_code 8 = .ok (.iconst 4, 1) := by decide +kernel
theorem dX3_hear_9 : decode prog_5_method_13_code 9 = .ok (.invokevirtual 96, 3) := by decide +kernel
theorem dX3_hear_12 : decode prog_5_method_13_code 12 = .ok (.istore_n 3, 1) := by decide +kernel
theorem dX3_hear_13 : decode prog_5_method_13_code 13 = .ok (.iconst 0, 1) := by decide +kernel
theorem dX3_hear_14 : decode prog_5_method_13_code 14 = .ok (.istore 4, 2) := by decide +kernel
theorem dX3_hear_16 : decode prog_5_method_13_code 16 = .ok (.iconst (-1), 1) := by decide +kernel
theorem dX3_hear_17 : decode prog_5_method_13_code 17 = .ok (.istore 5, 2) := by decide +kernel
theorem dX3_hear_19 : decode prog_5_method_13_code 19 = .ok (.iconst 3, 1) := by decide +kernel
theorem dX3_hear_20 : decode prog_5_method_13_code 20 = .ok (.istore 6, 2) := by decide +kernel
theorem dX3_hear_22 : decode prog_5_method_13_code 22 = .ok (.iconst 0, 1) := by decide +kernel
theorem dX3_hear_23 : decode prog_5_method_13_code 23 = .ok (.istore 7, 2) := by decide +kernel
theorem dX3_hear_25 : decode prog_5_method_13_code 25 = .ok (.iconst 0, 1) := by decide +kernel
theorem dX3_hear_26 : decode prog_5_method_13_code 26 = .ok (.istore 8, 2) := by decide +kernel
theorem dX3_hear_28 : decode prog_5_method_13_code 28 = .ok (.iconst 0, 1) := by decide +kernel
theorem dX3_hear_29 : decode prog_5_method_13_code 29 = .ok (.istore 9, 2) := by decide +kernel
theorem dX3_hear_31 : decode prog_5_method_13_code 31 = .ok (.iload 9, 2) := by decide +kernel
theorem dX3_hear_33 : decode prog_5_method_13_code 33 = .ok (.aload_n 0, 1) := by decide +kernel
theorem dX3_hear_34 : decode prog_5_method_13_code 34 = .ok (.getfield 50, 3) := by decide +kernel
theorem dX3_hear_37 : decode prog_5_method_13_code 37 = .ok (.if_icmp .ge 145, 3) := by decide +kernel
theorem dX3_hear_40 : decode prog_5_method_13_code 40 = .ok (.aload_n 0, 1) := by decide +kernel
theorem dX3_hear_41 : decode prog_5_method_13_code 41 = .ok (.getfield 15, 3) := by decide +kernel
theorem dX3_hear_44 : decode prog_5_method_13_code 44 = .ok (.iload 9, 2) := by decide +kernel
theorem dX3_hear_46 : decode prog_5_method_13_code 46 = .ok (.iaload, 1) := by decide +kernel
theorem dX3_hear_47 : decode prog_5_method_13_code 47 = .ok (.iload_n 1, 1) := by decide +kernel
theorem dX3_hear_48 : decode prog_5_method_13_code 48 = .ok (.if_icmp .ne 128, 3) := by decide +kernel
theorem dX3_hear_51 : decode prog_5_method_13_code 51 = .ok (.aload_n 0, 1) := by decide +kernel
theorem dX3_hear_52 : decode prog_5_method_13_code 52 = .ok (.getfield 21, 3) := by decide +kernel
theorem dX3_hear_55 : decode prog_5_method_13_code 55 = .ok (.iload 9, 2) := by decide +kernel
theorem dX3_hear_57 : decode prog_5_method_13_code 57 = .ok (.iaload, 1) := by decide +kernel
theorem dX3_hear_58 : decode prog_5_method_13_code 58 = .ok (.ifCond .ne 118, 3) := by decide +kernel
theorem dX3_hear_61 : decode prog_5_method_13_code 61 = .ok (.iload_n 2, 1) := by decide +kernel
theorem dX3_hear_62 : decode prog_5_method_13_code 62 = .ok (.aload_n 0, 1) := by decide +kernel
theorem dX3_hear_63 : decode prog_5_method_13_code 63 = .ok (.getfield 18, 3) := by decide +kernel
theorem dX3_hear_66 : decode prog_5_method_13_code 66 = .ok (.iload 9, 2) := by decide +kernel
theorem dX3_hear_68 : decode prog_5_method_13_code 68 = .ok (.iaload, 1) := by decide +kernel
theorem dX3_hear_69 : decode prog_5_method_13_code 69 = .ok (.isub, 1) := by decide +kernel
theorem dX3_hear_70 : decode prog_5_method_13_code 70 = .ok (.iload_n 3, 1) := by decide +kernel
theorem dX3_hear_71 : decode prog_5_method_13_code 71 = .ok (.if_icmp .ge 6, 3) := by decide +kernel
theorem dX3_hear_74 : decode prog_5_method_13_code 74 = .ok (.goto 102, 3) := by decide +kernel
theorem dX3_hear_77 : decode prog_5_method_13_code 77 = .ok (.iinc 4 1, 3) := by decide +kernel
theorem dX3_hear_80 : decode prog_5_method_13_code 80 = .ok (.aload_n 0, 1) := by decide +kernel
theorem dX3_hear_81 : decode prog_5_method_13_code 81 = .ok (.getfield 21, 3) := by decide +kernel
theorem dX3_hear_84 : decode prog_5_method_13_code 84 = .ok (.iload 9, 2) := by decide +kernel
theorem dX3_hear_86 : decode prog_5_method_13_code 86 = .ok (.iconst 3, 1) := by decide +kernel
theorem dX3_hear_87 : decode prog_5_method_13_code 87 = .ok (.iastore, 1) := by decide +kernel
theorem dX3_hear_88 : decode prog_5_method_13_code 88 = .ok (.aload_n 0, 1) := by decide +kernel
theorem dX3_hear_89 : decode prog_5_method_13_code 89 = .ok (.iload 9, 2) := by decide +kernel
theorem dX3_hear_91 : decode prog_5_method_13_code 91 = .ok (.iload_n 2, 1) := by decide +kernel
theorem dX3_hear_92 : decode prog_5_method_13_code 92 = .ok (.invokevirtual 105, 3) := by decide +kernel
theorem dX3_hear_95 : decode prog_5_method_13_code 95 = .ok (.istore 10, 2) := by decide +kernel
theorem dX3_hear_97 : decode prog_5_method_13_code 97 = .ok (.iload 10, 2) := by decide +kernel
theorem dX3_hear_99 : decode prog_5_method_13_code 99 = .ok (.iload 6, 2) := by decide +kernel
theorem dX3_hear_101 : decode prog_5_method_13_code 101 = .ok (.if_icmp .lt 37, 3) := by decide +kernel
theorem dX3_hear_104 : decode prog_5_method_13_code 104 = .ok (.iload 10, 2) := by decide +kernel
theorem dX3_hear_106 : decode prog_5_method_13_code 106 = .ok (.iload 6, 2) := by decide +kernel
theorem dX3_hear_108 : decode prog_5_method_13_code 108 = .ok (.if_icmp .ne 34, 3) := by decide +kernel
theorem dX3_hear_111 : decode prog_5_method_13_code 111 = .ok (.aload_n 0, 1) := by decide +kernel
theorem dX3_hear_112 : decode prog_5_method_13_code 112 = .ok (.getfield 88, 3) := by decide +kernel
theorem dX3_hear_115 : decode prog_5_method_13_code 115 = .ok (.iload 7, 2) := by decide +kernel
theorem dX3_hear_117 : decode prog_5_method_13_code 117 = .ok (.if_icmp .lt 21, 3) := by decide +kernel
theorem dX3_hear_120 : decode prog_5_method_13_code 120 = .ok (.aload_n 0, 1) := by decide +kernel
theorem dX3_hear_121 : decode prog_5_method_13_code 121 = .ok (.getfield 88, 3) := by decide +kernel
theorem dX3_hear_124 : decode prog_5_method_13_code 124 = .ok (.iload 7, 2) := by decide +kernel
theorem dX3_hear_126 : decode prog_5_method_13_code 126 = .ok (.if_icmp .ne 16, 3) := by decide +kernel
theorem dX3_hear_129 : decode prog_5_method_13_code 129 = .ok (.aload_n 0, 1) := by decide +kernel
theorem dX3_hear_130 : decode prog_5_method_13_code 130 = .ok (.getfield 91, 3) := by decide +kernel
theorem dX3_hear_133 : decode prog_5_method_13_code 133 = .ok (.iload 8, 2) := by decide +kernel
theorem dX3_hear_135 : decode prog_5_method_13_code 135 = .ok (.if_icmp .le 7, 3) := by decide +kernel
theorem dX3_hear_138 : decode prog_5_method_13_code 138 = .ok (.iconst 1, 1) := by decide +kernel
theorem dX3_hear_139 : decode prog_5_method_13_code 139 = .ok (.goto 4, 3) := by decide +kernel
theorem dX3_hear_142 : decode prog_5_method_13_code 142 = .ok (.iconst 0, 1) := by decide +kernel
theorem dX3_hear_143 : decode prog_5_method_13_code 143 = .ok (.istore 11, 2) := by decide +kernel
theorem dX3_hear_145 : decode prog_5_method_13_code 145 = .ok (.iload 10, 2) := by decide +kernel
theorem dX3_hear_147 : decode prog_5_method_13_code 147 = .ok (.iconst 3, 1) := by decide +kernel
theorem dX3_hear_148 : decode prog_5_method_13_code 148 = .ok (.if_icmp .eq 28, 3) := by decide +kernel
theorem dX3_hear_151 : decode prog_5_method_13_code 151 = .ok (.iload 11, 2) := by decide +kernel
theorem dX3_hear_153 : decode prog_5_method_13_code 153 = .ok (.ifCond .eq 23, 3) := by decide +kernel
theorem dX3_hear_156 : decode prog_5_method_13_code 156 = .ok (.iload 9, 2) := by decide +kernel
theorem dX3_hear_158 : decode prog_5_method_13_code 158 = .ok (.istore 5, 2) := by decide +kernel
theorem dX3_hear_160 : decode prog_5_method_13_code 160 = .ok (.iload 10, 2) := by decide +kernel
theorem dX3_hear_162 : decode prog_5_method_13_code 162 = .ok (.istore 6, 2) := by decide +kernel
theorem dX3_hear_164 : decode prog_5_method_13_code 164 = .ok (.aload_n 0, 1) := by decide +kernel
theorem dX3_hear_165 : decode prog_5_method_13_code 165 = .ok (.getfield 88, 3) := by decide +kernel
theorem dX3_hear_168 : decode prog_5_method_13_code 168 = .ok (.istore 7, 2) := by decide +kernel
theorem dX3_hear_170 : decode prog_5_method_13_code 170 = .ok (.aload_n 0, 1) := by decide +kernel
theorem dX3_hear_171 : decode prog_5_method_13_code 171 = .ok (.getfield 91, 3) := by decide +kernel
theorem dX3_hear_174 : decode prog_5_method_13_code 174 = .ok (.istore 8, 2) := by decide +kernel
theorem dX3_hear_176 : decode prog_5_method_13_code 176 = .ok (.iinc 9 1, 3) := by decide +kernel
theorem dX3_hear_179 : decode prog_5_method_13_code 179 = .ok (.goto (-148), 3) := by decide +kernel
theorem dX3_hear_182 : decode prog_5_method_13_code 182 = .ok (.iload 5, 2) := by decide +kernel
theorem dX3_hear_184 : decode prog_5_method_13_code 184 = .ok (.iconst (-1), 1) := by decide +kernel
theorem dX3_hear_185 : decode prog_5_method_13_code 185 = .ok (.if_icmp .eq 13, 3) := by decide +kernel
theorem dX3_hear_188 : decode prog_5_method_13_code 188 = .ok (.aload_n 0, 1) := by decide +kernel
theorem dX3_hear_189 : decode prog_5_method_13_code 189 = .ok (.iload_n 1, 1) := by decide +kernel
theorem dX3_hear_190 : decode prog_5_method_13_code 190 = .ok (.iload 5, 2) := by decide +kernel
theorem dX3_hear_192 : decode prog_5_method_13_code 192 = .ok (.iload 6, 2) := by decide +kernel
theorem dX3_hear_194 : decode prog_5_method_13_code 194 = .ok (.iload_n 2, 1) := by decide +kernel
theorem dX3_hear_195 : decode prog_5_method_13_code 195 = .ok (.invokevirtual 108, 3) := by decide +kernel
theorem dX3_hear_198 : decode prog_5_method_13_code 198 = .ok (.iload 4, 2) := by decide +kernel
theorem dX3_hear_200 : decode prog_5_method_13_code 200 = .ok (.ireturn, 1) := by decide +kernel
