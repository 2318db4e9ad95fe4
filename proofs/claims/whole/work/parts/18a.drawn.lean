abbrev xX10_put : bX := ("BurntHall$Tape", prog_12_method_2_code, 3, (Option.none : Option Jvm.ClassFile.FieldType), b_rm 1 0 0, 0, "put")
abbrev yX10_put : MethodName := ⟨"BurntHall$Tape", "put", "(I)V"⟩
theorem dX10_put_0 : decode prog_12_method_2_code 0 = .ok (.bipush 24, 2) := by decide +kernel
theorem dX10_put_2 : decode prog_12_method_2_code 2 = .ok (.istore_n 2, 1) := by decide +kernel
theorem dX10_put_3 : decode prog_12_method_2_code 3 = .ok (.iload_n 2, 1) := by decide +kernel
theorem dX10_put_4 : decode prog_12_method_2_code 4 = .ok (.ifCond .lt 42, 3) := by decide +kernel
theorem dX10_put_7 : decode prog_12_method_2_code 7 = .ok (.aload_n 0, 1) := by decide +kernel
theorem dX10_put_8 : decode prog_12_method_2_code 8 = .ok (.getfield 19, 3) := by decide +kernel
theorem dX10_put_11 : decode prog_12_method_2_code 11 = .ok (.sipush 1000, 3) := by decide +kernel
theorem dX10_put_14 : decode prog_12_method_2_code 14 = .ok (.if_icmp .ge 26, 3) := by decide +kernel
theorem dX10_put_17 : decode prog_12_method_2_code 17 = .ok (.aload_n 0, 1) := by decide +kernel
theorem dX10_put_18 : decode prog_12_method_2_code 18 = .ok (.getfield 11, 3) := by decide +kernel
theorem dX10_put_21 : decode prog_12_method_2_code 21 = .ok (.aload_n 0, 1) := by decide +kernel
theorem dX10_put_22 : decode prog_12_method_2_code 22 = .ok (.getfield 19, 3) := by decide +kernel
theorem dX10_put_25 : decode prog_12_method_2_code 25 = .ok (.iload_n 1, 1) := by decide +kernel
theorem dX10_put_26 : decode prog_12_method_2_code 26 = .ok (.iload_n 2, 1) := by decide +kernel
theorem dX10_put_27 : decode prog_12_method_2_code 27 = .ok (.ishr, 1) := by decide +kernel
theorem dX10_put_28 : decode prog_12_method_2_code 28 = .ok (.i2b, 1) := by decide +kernel
theorem dX10_put_29 : decode prog_12_method_2_code 29 = .ok (.bastore, 1) := by decide +kernel
theorem dX10_put_30 : decode prog_12_method_2_code 30 = .ok (.aload_n 0, 1) := by decide +kernel
theorem dX10_put_31 : decode prog_12_method_2_code 31 = .ok (.dup, 1) := by decide +kernel
theorem dX10_put_32 : decode prog_12_method_2_code 32 = .ok (.getfield 19, 3) := by decide +kernel
theorem dX10_put_35 : decode prog_12_method_2_code 35 = .ok (.iconst 1, 1) := by decide +kernel
theorem dX10_put_36 : decode prog_12_method_2_code 36 = .ok (.iadd, 1) := by decide +kernel
theorem dX10_put_37 : decode prog_12_method_2_code 37 = .ok (.putfield 19, 3) := by decide +kernel
theorem dX10_put_40 : decode prog_12_method_2_code 40 = .ok (.iinc 2 (-8), 3) := by decide +kernel
theorem dX10_put_43 : decode prog_12_method_2_code 43 = .ok (.goto (-40), 3) := by decide +kernel
theorem dX10_put_46 : decode prog_12_method_2_code 46 = .ok (.return_, 1) := by decide +kernel
abbrev A_X10_put_3 (l : Launch) (E : bE) (Q : bM → Prop) (v1 : Int) : (Int × bM) → Prop := (fun t : Int × bM => V l E xX10_put (0, 0) 3 [(0, bR 1), (1, bI v1), (2, bI (t.1))] [] t.2 (b_pV Q))
abbrev X_X10_put_3 (l : Launch) (E : bE) (Q : bM → Prop) (v1 : Int) : (bM) → Prop := (fun t : bM => V l E xX10_put (0, 0) 46 [] [] t (b_pV Q))
noncomputable def F_X10_put_s3 (v1 : Int) (v2 : Int) (M : bM) : Option ((Int × bM) ⊕ (bM)) :=
  if v2 < 0 then (some (.inr (M))) else (if 1000 ≤ (M 1 1) then (b_g (b_i32 (v2 + (-8))) (some (.inl ((v2 + (-8)), M)))) else (b_g (0 ≤ (M 1 1) ∧ (M 1 1) < 1000) (b_let (b_up M 72 (M 1 1) (i_b (i_shr v1 v2))) (fun M5 => b_g (b_i32 ((M5 1 1) + 1)) (b_let (b_up M5 1 1 ((M5 1 1) + 1)) (fun M7 => b_g (b_i32 (v2 + (-8))) (some (.inl ((v2 + (-8)), M7)))))))))
theorem t_X10_put_s3 {l : Launch} {E : bE} {Q : bM → Prop} {v1 : Int} {v2 : Int} {M : bM} (h : b_wp (F_X10_put_s3 v1 v2 M) (Sum.elim (A_X10_put_3 l E Q v1) (X_X10_put_3 l E Q v1))) : V l E xX10_put (0, 0) 3 [(0, bR 1), (1, bI v1), (2, bI v2)] [] M (b_pV Q) := by
  unfold F_X10_put_s3 at h
  refine v_iload_n (f := 2) 2 rfl dX10_put_3 ?_
  refine v_if_lt (tgt := 46) dX10_put_4 (by decide) (fun c1 => ?_) (fun c1 => ?_)
  · replace h := b_wp_t c1 h
    refine v_sub (ls2 := []) [] rfl ?_
    exact h
  · replace h := b_wp_f c1 h
    refine v_aload_n (f := 0) 0 rfl dX10_put_7 ?_
    refine v_getI (kf := 1) (kz := 1) rfl kd_1 rfl ⟨by decide, by decide⟩ rfl wf_10_19 dX10_put_8 ?_
    refine v_sipush ⟨by decide, by decide⟩ (by decide) dX10_put_11 ?_
    refine v_icmp_ge (tgt := 40) dX10_put_14 (by decide) (fun c2 => ?_) (fun c2 => ?_)
    · replace h := b_wp_t c2 h
      obtain ⟨g3, h⟩ := b_wp_g h
      refine v_iincN (ls' := [(2, bI _), (0, bR _), (1, bI _)]) 2 rfl (by decide) g3 dX10_put_40 rfl ?_
      refine v_goto (tgt := 3) dX10_put_43 (by decide) ?_
      refine v_sub (ls2 := [(0, bR _), (1, bI _), (2, bI _)]) [1, 2, 0] rfl ?_
      exact h
    · replace h := b_wp_f c2 h
      obtain ⟨g4, h⟩ := b_wp_g h
      refine v_aload_n (f := 0) 0 rfl dX10_put_17 ?_
      refine v_getR (kf := 0) (kz := 0) rfl kd_1 rfl ⟨by decide, by decide⟩ rfl wf_10_11 dX10_put_18 ?_
      refine v_aload_n (f := 0) 0 rfl dX10_put_21 ?_
      refine v_getI (kf := 1) (kz := 1) rfl kd_1 rfl ⟨by decide, by decide⟩ rfl wf_10_19 dX10_put_22 ?_
      refine v_iload_n (f := 1) 1 rfl dX10_put_25 ?_
      refine v_iload_n (f := 2) 2 rfl dX10_put_26 ?_
      refine v_ishr (v := i_shr _ _) rfl dX10_put_27 ?_
      refine v_i2b (v := i_b _) rfl dX10_put_28 ?_
      refine v_bastore kd_72 g4 (by decide) (b_narb (i_b_r _)) dX10_put_29 ?_
      replace h := b_wp_l h
      obtain ⟨g6, h⟩ := b_wp_g h
      refine v_aload_n (f := 0) 0 rfl dX10_put_30 ?_
      refine v_dup rfl dX10_put_31 ?_
      refine v_getI (kf := 1) (kz := 1) rfl kd_1 rfl ⟨by decide, by decide⟩ rfl wf_10_19 dX10_put_32 ?_
      refine v_iconst ⟨by decide, by decide⟩ dX10_put_35 ?_
      refine v_iaddN g6 dX10_put_36 ?_
      refine v_putI (kf := 1) (kz := 1) rfl kd_1 rfl ⟨by decide, by decide⟩ rfl wf_10_19 rfl rfl dX10_put_37 ?_
      replace h := b_wp_l h
      obtain ⟨g8, h⟩ := b_wp_g h
      refine v_iincN (ls' := [(2, bI _), (0, bR _), (1, bI _)]) 2 rfl (by decide) g8 dX10_put_40 rfl ?_
      refine v_goto (tgt := 3) dX10_put_43 (by decide) ?_
      refine v_sub (ls2 := [(0, bR _), (1, bI _), (2, bI _)]) [1, 2, 0] rfl ?_
      exact h
theorem l_X10_put_3 {l : Launch} {E : bE} {Q : bM → Prop} {v1 : Int} {s : Int × bM} (h : b_wp (b_loop (fun t => F_X10_put_s3 v1 t.1 t.2) s) (X_X10_put_3 l E Q v1)) : A_X10_put_3 l E Q v1 s := b_loop_wp (fun t h => t_X10_put_s3 h) s h
noncomputable def F_X10_put_b46 (M : bM) : Option (bM) :=
  some M
theorem t_X10_put_b46 {l : Launch} {E : bE} {Q : bM → Prop} {M : bM} (h : b_wp (F_X10_put_b46 M) (Q)) : V l E xX10_put (0, 0) 46 [] [] M (b_pV Q) := by
  unfold F_X10_put_b46 at h
  refine v_return rfl dX10_put_46 ⟨by decide, by decide⟩ ?_
  exact ⟨rfl, h⟩
noncomputable def F_X10_put (v1 : Int) (M : bM) : Option (bM) :=
  b_bind (b_loop (fun t => F_X10_put_s3 v1 t.1 t.2) (24, M)) (fun t => F_X10_put_b46 t)
theorem t_X10_put {l : Launch} {E : bE} {Q : bM → Prop} {v1 : Int} {M : bM} (h : b_wp (F_X10_put v1 M) (Q)) : V l E xX10_put (0, 0) 0 [(0, bR 1), (1, bI v1)] [] M (b_pV Q) := by
  unfold F_X10_put at h
  refine v_bipush ⟨by decide, by decide⟩ (by decide) dX10_put_0 ?_
  refine v_istore_n (g := 2) (i := 2) (ls' := [(2, bI _), (0, bR _), (1, bI _)]) rfl (by decide) dX10_put_2 rfl ?_
  refine v_sub (ls2 := [(0, bR _), (1, bI _), (2, bI _)]) [1, 2, 0] rfl ?_
  refine l_X10_put_3 (b_wp_m (fun t h => ?_) (b_wp_b h))
  show V l E xX10_put (0, 0) 46 [] [] _ (b_pV Q)
  exact t_X10_put_b46 h
theorem cf_X10_put {l : Launch} {E : bE} {M : bM} {v1 : Int} {Q : bM → Prop} (h : b_wp (F_X10_put v1 M) Q) : b_C l E xX10_put yX10_put [bR 1, bI v1] M (b_pV Q) := b_met (by decide) ⟨rfl, rfl⟩ (Nat.le_of_ble_eq_true rfl) (fun _ _ => t_X10_put h)
abbrev xX11_feed : bX := ("BurntHall", prog_1_method_2_code, 6, (Option.some Jvm.ClassFile.FieldType.int), b_rm 2 0 0, 0, "feed")
abbrev yX11_feed : MethodName := ⟨"BurntHall", "feed", "(IIIII)I"⟩
theorem dX11_feed_0 : decode prog_1_method_2_code 0 = .ok (.aload_n 0, 1) := by decide +kernel
theorem dX11_feed_1 : decode prog_1_method_2_code 1 = .ok (.getfield 10, 3) := by decide +kernel
theorem dX11_feed_4 : decode prog_1_method_2_code 4 = .ok (.getfield 95, 3) := by decide +kernel
theorem dX11_feed_7 : decode prog_1_method_2_code 7 = .ok (.bipush 20, 2) := by decide +kernel
theorem dX11_feed_9 : decode prog_1_method_2_code 9 = .ok (.iadd, 1) := by decide +kernel
theorem dX11_feed_10 : decode prog_1_method_2_code 10 = .ok (.sipush 1000, 3) := by decide +kernel
theorem dX11_feed_13 : decode prog_1_method_2_code 13 = .ok (.if_icmp .le 6, 3) := by decide +kernel
theorem dX11_feed_16 : decode prog_1_method_2_code 16 = .ok (.bipush (-3), 2) := by decide +kernel
theorem dX11_feed_18 : decode prog_1_method_2_code 18 = .ok (.ireturn, 1) := by decide +kernel
theorem dX11_feed_19 : decode prog_1_method_2_code 19 = .ok (.aload_n 0, 1) := by decide +kernel
theorem dX11_feed_20 : decode prog_1_method_2_code 20 = .ok (.getfield 10, 3) := by decide +kernel
theorem dX11_feed_23 : decode prog_1_method_2_code 23 = .ok (.iload_n 1, 1) := by decide +kernel
theorem dX11_feed_24 : decode prog_1_method_2_code 24 = .ok (.invokevirtual 98, 3) := by decide +kernel
theorem dX11_feed_27 : decode prog_1_method_2_code 27 = .ok (.aload_n 0, 1) := by decide +kernel
theorem dX11_feed_28 : decode prog_1_method_2_code 28 = .ok (.getfield 10, 3) := by decide +kernel
theorem dX11_feed_31 : decode prog_1_method_2_code 31 = .ok (.iload_n 2, 1) := by decide +kernel
theorem dX11_feed_32 : decode prog_1_method_2_code 32 = .ok (.invokevirtual 98, 3) := by decide +kernel
theorem dX11_feed_35 : decode prog_1_method_2_code 35 = .ok (.aload_n 0, 1) := by decide +kernel
theorem dX11_feed_36 : decode prog_1_method_2_code 36 = .ok (.getfield 10, 3) := by decide +kernel
theorem dX11_feed_39 : decode prog_1_method_2_code 39 = .ok (.iload_n 3, 1) := by decide +kernel
theorem dX11_feed_40 : decode prog_1_method_2_code 40 = .ok (.invokevirtual 98, 3) := by decide +kernel
theorem dX11_feed_43 : decode prog_1_method_2_code 43 = .ok (.aload_n 0, 1) := by decide +kernel
theorem dX11_feed_44 : decode prog_1_method_2_code 44 = .ok (.getfield 10, 3) := by decide +kernel
theorem dX11_feed_47 : decode prog_1_method_2_code 47 = .ok (.iload 4, 2) := by decide +kernel
theorem dX11_feed_49 : decode prog_1_method_2_code 49 = .ok (.invokevirtual 98, 3) := by decide +kernel
theorem dX11_feed_52 : decode prog_1_method_2_code 52 = .ok (.aload_n 0, 1) := by decide +kernel
theorem dX11_feed_53 : decode prog_1_method_2_code 53 = .ok (.getfield 10, 3) := by decide +kernel
theorem dX11_feed_56 : decode prog_1_method_2_code 56 = .ok (.iload 5, 2) := by decide +kernel
theorem dX11_feed_58 : decode prog_1_method_2_code 58 = .ok (.invokevirtual 98, 3) := by decide +kernel
theorem dX11_feed_61 : decode prog_1_method_2_code 61 = .ok (.aload_n 0, 1) := by decide +kernel
theorem dX11_feed_62 : decode prog_1_method_2_code 62 = .ok (.getfield 10, 3) := by decide +kernel
theorem dX11_feed_65 : decode prog_1_method_2_code 65 = .ok (.getfield 95, 3) := by decide +kernel
theorem dX11_feed_68 : decode prog_1_method_2_code 68 = .ok (.ireturn, 1) := by decide +kernel
noncomputable def F_X11_feed (v1 : Int) (v2 : Int) (v3 : Int) (v4 : Int) (v5 : Int) (M : bM) : Option (Int × bM) :=
  b_g (b_i32 ((M 1 1) + 20)) (if ((M 1 1) + 20) ≤ 1000 then (b_bind (F_X10_put v1 M) (fun M3 => b_bind (F_X10_put v2 M3) (fun M4 => b_bind (F_X10_put v3 M4) (fun M5 => b_bind (F_X10_put v4 M5) (fun M6 => b_bind (F_X10_put v5 M6) (fun M7 => some ((M7 1 1), M7))))))) else (some ((-3), M)))
theorem t_X11_feed {l : Launch} {E : bE} {Q : (Int × bM) → Prop} {v1 : Int} {v2 : Int} {v3 : Int} {v4 : Int} {v5 : Int} {M : bM} (h : b_wp (F_X11_feed v1 v2 v3 v4 v5 M) (Q)) : V l E xX11_feed (0, 0) 0 [(0, bR 0), (1, bI v1), (2, bI v2), (3, bI v3), (4, bI v4), (5, bI v5)] [] M (b_pI Q) := by
  unfold F_X11_feed at h
  obtain ⟨g1, h⟩ := b_wp_g h
  refine v_aload_n (f := 0) 0 rfl dX11_feed_0 ?_
  refine v_getR (kf := 0) (kz := 0) rfl kd_0 rfl ⟨by decide, by decide⟩ rfl wf_11_10 dX11_feed_1 ?_
  refine v_getI (kf := 1) (kz := 1) rfl kd_1 rfl ⟨by decide, by decide⟩ rfl wf_11_95 dX11_feed_4 ?_
  refine v_bipush ⟨by decide, by decide⟩ (by decide) dX11_feed_7 ?_
  refine v_iaddN g1 dX11_feed_9 ?_
  refine v_sipush ⟨by decide, by decide⟩ (by decide) dX11_feed_10 ?_
  refine v_icmp_le (tgt := 19) dX11_feed_13 (by decide) (fun c2 => ?_) (fun c2 => ?_)
  · replace h := b_wp_t c2 h
    refine v_aload_n (f := 0) 0 rfl dX11_feed_19 ?_
    refine v_getR (kf := 0) (kz := 0) rfl kd_0 rfl ⟨by decide, by decide⟩ rfl wf_11_10 dX11_feed_20 ?_
    refine v_iload_n (f := 1) 1 rfl dX11_feed_23 ?_
    refine v_cVV (nA := 1) (As := [bI _]) (ix := 98) (cf_X10_put (b_wp_b h)) rfl kd_1 rfl rfl wc_X10_put wm_11_98 wi_X10_put ws_X10_put wn_10 ⟨by decide, by decide, by decide⟩ rfl ⟨by decide, by decide⟩ ⟨by decide, by decide⟩ (Nat.le_of_ble_eq_true rfl) dX11_feed_24 (fun M3 h => ?_)
    refine v_aload_n (f := 0) 0 rfl dX11_feed_27 ?_
    refine v_getR (kf := 0) (kz := 0) rfl kd_0 rfl ⟨by decide, by decide⟩ rfl wf_11_10 dX11_feed_28 ?_
    refine v_iload_n (f := 2) 2 rfl dX11_feed_31 ?_
    refine v_cVV (nA := 1) (As := [bI _]) (ix := 98) (cf_X10_put (b_wp_b h)) rfl kd_1 rfl rfl wc_X10_put wm_11_98 wi_X10_put ws_X10_put wn_10 ⟨by decide, by decide, by decide⟩ rfl ⟨by decide, by decide⟩ ⟨by decide, by decide⟩ (Nat.le_of_ble_eq_true rfl) dX11_feed_32 (fun M4 h => ?_)
    refine v_aload_n (f := 0) 0 rfl dX11_feed_35 ?_
    refine v_getR (kf := 0) (kz := 0) rfl kd_0 rfl ⟨by decide, by decide⟩ rfl wf_11_10 dX11_feed_36 ?_
    refine v_iload_n (f := 3) 3 rfl dX11_feed_39 ?_
    refine v_cVV (nA := 1) (As := [bI _]) (ix := 98) (cf_X10_put (b_wp_b h)) rfl kd_1 rfl rfl wc_X10_put wm_11_98 wi_X10_put ws_X10_put wn_10 ⟨by decide, by decide, by decide⟩ rfl ⟨by decide, by decide⟩ ⟨by decide, by decide⟩ (Nat.le_of_ble_eq_true rfl) dX11_feed_40 (fun M5 h => ?_)
    refine v_aload_n (f := 0) 0 rfl dX11_feed_43 ?_
    refine v_getR (kf := 0) (kz := 0) rfl kd_0 rfl ⟨by decide, by decide⟩ rfl wf_11_10 dX11_feed_44 ?_
    refine v_iload (i := 4) 4 rfl dX11_feed_47 ?_
    refine v_cVV (nA := 1) (As := [bI _]) (ix := 98) (cf_X10_put (b_wp_b h)) rfl kd_1 rfl rfl wc_X10_put wm_11_98 wi_X10_put ws_X10_put wn_10 ⟨by decide, by decide, by decide⟩ rfl ⟨by decide, by decide⟩ ⟨by decide, by decide⟩ (Nat.le_of_ble_eq_true rfl) dX11_feed_49 (fun M6 h => ?_)
    refine v_aload_n (f := 0) 0 rfl dX11_feed_52 ?_
    refine v_getR (kf := 0) (kz := 0) rfl kd_0 rfl ⟨by decide, by decide⟩ rfl wf_11_10 dX11_feed_53 ?_
    refine v_iload (i := 5) 5 rfl dX11_feed_56 ?_
    refine v_cVV (nA := 1) (As := [bI _]) (ix := 98) (cf_X10_put (b_wp_b h)) rfl kd_1 rfl rfl wc_X10_put wm_11_98 wi_X10_put ws_X10_put wn_10 ⟨by decide, by decide, by decide⟩ rfl ⟨by decide, by decide⟩ ⟨by decide, by decide⟩ (Nat.le_of_ble_eq_true rfl) dX11_feed_58 (fun M7 h => ?_)
    refine v_aload_n (f := 0) 0 rfl dX11_feed_61 ?_
    refine v_getR (kf := 0) (kz := 0) rfl kd_0 rfl ⟨by decide, by decide⟩ rfl wf_11_10 dX11_feed_62 ?_
    refine v_getI (kf := 1) (kz := 1) rfl kd_1 rfl ⟨by decide, by decide⟩ rfl wf_11_95 dX11_feed_65 ?_
    refine v_ireturn rfl dX11_feed_68 ⟨by decide, by decide⟩ ?_
    exact ⟨_, rfl, h⟩
  · replace h := b_wp_f c2 h
    refine v_bipush ⟨by decide, by decide⟩ (by decide) dX11_feed_16 ?_
    refine v_ireturn rfl dX11_feed_18 ⟨by decide, by decide⟩ ?_
    exact ⟨_, rfl, h⟩
theorem cf_X11_feed {l : Launch} {E : bE} {M : bM} {v1 : Int} {v2 : Int} {v3 : Int} {v4 : Int} {v5 : Int} {Q : (Int × bM) → Prop} (h : b_wp (F_X11_feed v1 v2 v3 v4 v5 M) Q) : b_C l E xX11_feed yX11_feed [bR 0, bI v1, bI v2, bI v3, bI v4, bI v5] M (b_pI Q) := b_met (by decide) ⟨rfl, rfl⟩ (Nat.le_of_ble_eq_true rfl) (fun _ _ => t_X11_feed h)
abbrev xX11_end : bX := ("BurntHall", prog_1_method_3_code, 2, (Option.some Jvm.ClassFile.FieldType.int), b_rm 1 0 0, 0, "end")
abbrev yX11_end : MethodName := ⟨"BurntHall", "end", "(I)I"⟩
theorem dX11_end_0 : decode prog_1_method_3_code 0 = .ok (.iload_n 1, 1) := by decide +kernel
theorem dX11_end_1 : decode prog_1_method_3_code 1 = .ok (.ifCond .lt 14, 3) := by decide +kernel
theorem dX11_end_4 : decode prog_1_method_3_code 4 = .ok (.iload_n 1, 1) := by decide +kernel
theorem dX11_end_5 : decode prog_1_method_3_code 5 = .ok (.aload_n 0, 1) := by decide +kernel
theorem dX11_end_6 : decode prog_1_method_3_code 6 = .ok (.getfield 10, 3) := by decide +kernel
theorem dX11_end_9 : decode prog_1_method_3_code 9 = .ok (.getfield 95, 3) := by decide +kernel
theorem dX11_end_12 : decode prog_1_method_3_code 12 = .ok (.if_icmp .le 5, 3) := by decide +kernel
theorem dX11_end_15 : decode prog_1_method_3_code 15 = .ok (.iconst (-1), 1) := by decide +kernel
theorem dX11_end_16 : decode prog_1_method_3_code 16 = .ok (.ireturn, 1) := by decide +kernel
theorem dX11_end_17 : decode prog_1_method_3_code 17 = .ok (.aload_n 0, 1) := by decide +kernel
theorem dX11_end_18 : decode prog_1_method_3_code 18 = .ok (.getfield 10, 3) := by decide +kernel
theorem dX11_end_21 : decode prog_1_method_3_code 21 = .ok (.iload_n 1, 1) := by decide +kernel
theorem dX11_end_22 : decode prog_1_method_3_code 22 = .ok (.putfield 95, 3) := by decide +kernel
theorem dX11_end_25 : decode prog_1_method_3_code 25 = .ok (.iload_n 1, 1) := by decide +kernel
theorem dX11_end_26 : decode prog_1_method_3_code 26 = .ok (.ireturn, 1) := by decide +kernel
noncomputable def F_X11_end (v1 : Int) (M : bM) : Option (Int × bM) :=
  if v1 < 0 then (some ((-1), M)) else (if v1 ≤ (M 1 1) then (b_let (b_up M 1 1 v1) (fun M3 => some (v1, M3))) else (some ((-1), M)))
theorem t_X11_end {l : Launch} {E : bE} {Q : (Int × bM) → Prop} {v1 : Int} {M : bM} (h : b_wp (F_X11_end v1 M) (Q)) : V l E xX11_end (0, 0) 0 [(0, bR 0), (1, bI v1)] [] M (b_pI Q) := by
  unfold F_X11_end at h
  refine v_iload_n (f := 1) 1 rfl dX11_end_0 ?_
  refine v_if_lt (tgt := 15) dX11_end_1 (by decide) (fun c1 => ?_) (fun c1 => ?_)
  · replace h := b_wp_t c1 h
    refine v_iconst ⟨by decide, by decide⟩ dX11_end_15 ?_
    refine v_ireturn rfl dX11_end_16 ⟨by decide, by decide⟩ ?_
    exact ⟨_, rfl, h⟩
  · replace h := b_wp_f c1 h
    refine v_iload_n (f := 1) 1 rfl dX11_end_4 ?_
    refine v_aload_n (f := 0) 0 rfl dX11_end_5 ?_
    refine v_getR (kf := 0) (kz := 0) rfl kd_0 rfl ⟨by decide, by decide⟩ rfl wf_11_10 dX11_end_6 ?_
    refine v_getI (kf := 1) (kz := 1) rfl kd_1 rfl ⟨by decide, by decide⟩ rfl wf_11_95 dX11_end_9 ?_
    refine v_icmp_le (tgt := 17) dX11_end_12 (by decide) (fun c2 => ?_) (fun c2 => ?_)
    · replace h := b_wp_t c2 h
      refine v_aload_n (f := 0) 0 rfl dX11_end_17 ?_
      refine v_getR (kf := 0) (kz := 0) rfl kd_0 rfl ⟨by decide, by decide⟩ rfl wf_11_10 dX11_end_18 ?_
      refine v_iload_n (f := 1) 1 rfl dX11_end_21 ?_
      refine v_putI (kf := 1) (kz := 1) rfl kd_1 rfl ⟨by decide, by decide⟩ rfl wf_11_95 rfl rfl dX11_end_22 ?_
      replace h := b_wp_l h
      refine v_iload_n (f := 1) 1 rfl dX11_end_25 ?_
      refine v_ireturn rfl dX11_end_26 ⟨by decide, by decide⟩ ?_
      exact ⟨_, rfl, h⟩
    · replace h := b_wp_f c2 h
      refine v_iconst ⟨by decide, by decide⟩ dX11_end_15 ?_
      refine v_ireturn rfl dX11_end_16 ⟨by decide, by decide⟩ ?_
      exact ⟨_, rfl, h⟩
theorem cf_X11_end {l : Launch} {E : bE} {M : bM} {v1 : Int} {Q : (Int × bM) → Prop} (h : b_wp (F_X11_end v1 M) Q) : b_C l E xX11_end yX11_end [bR 0, bI v1] M (b_pI Q) := b_met (by decide) ⟨rfl, rfl⟩ (Nat.le_of_ble_eq_true rfl) (fun _ _ => t_X11_end h)
abbrev xX11_pass : bX := ("BurntHall", prog_1_method_4_code, 2, (Option.some Jvm.ClassFile.FieldType.int), b_rm 1 0 0, 0, "pass")
abbrev yX11_pass : MethodName := ⟨"BurntHall", "pass", "(I)I"⟩
theorem dX11_pass_0 : decode prog_1_method_4_code 0 = .ok (.iload_n 1, 1) := by decide +kernel
theorem dX11_pass_1 : decode prog_1_method_4_code 1 = .ok (.iconst 1, 1) := by decide +kernel
theorem dX11_pass_2 : decode prog_1_method_4_code 2 = .ok (.if_icmp .lt 22, 3) := by decide +kernel
theorem dX11_pass_5 : decode prog_1_method_4_code 5 = .ok (.iload_n 1, 1) := by decide +kernel
theorem dX11_pass_6 : decode prog_1_method_4_code 6 = .ok (.sipush 5000, 3) := by decide +kernel
theorem dX11_pass_9 : decode prog_1_method_4_code 9 = .ok (.if_icmp .gt 15, 3) := by decide +kernel
theorem dX11_pass_12 : decode prog_1_method_4_code 12 = .ok (.aload_n 0, 1) := by decide +kernel
theorem dX11_pass_13 : decode prog_1_method_4_code 13 = .ok (.getfield 91, 3) := by decide +kernel
theorem dX11_pass_16 : decode prog_1_method_4_code 16 = .ok (.iload_n 1, 1) := by decide +kernel
theorem dX11_pass_17 : decode prog_1_method_4_code 17 = .ok (.iadd, 1) := by decide +kernel
theorem dX11_pass_18 : decode prog_1_method_4_code 18 = .ok (.sipush 9999, 3) := by decide +kernel
theorem dX11_pass_21 : decode prog_1_method_4_code 21 = .ok (.if_icmp .le 6, 3) := by decide +kernel
theorem dX11_pass_24 : decode prog_1_method_4_code 24 = .ok (.bipush (-2), 2) := by decide +kernel
theorem dX11_pass_26 : decode prog_1_method_4_code 26 = .ok (.ireturn, 1) := by decide +kernel
theorem dX11_pass_27 : decode prog_1_method_4_code 27 = .ok (.aload_n 0, 1) := by decide +kernel
theorem dX11_pass_28 : decode prog_1_method_4_code 28 = .ok (.dup, 1) := by decide +kernel
theorem dX11_pass_29 : decode prog_1_method_4_code 29 = .ok (.getfield 91, 3) := by decide +kernel
theorem dX11_pass_32 : decode prog_1_method_4_code 32 = .ok (.iload_n 1, 1) := by decide +kernel
theorem dX11_pass_33 : decode prog_1_method_4_code 33 = .ok (.iadd, 1) := by decide +kernel
theorem dX11_pass_34 : decode prog_1_method_4_code 34 = .ok (.putfield 91, 3) := by decide +kernel
theorem dX11_pass_37 : decode prog_1_method_4_code 37 = .ok (.aload_n 0, 1) := by decide +kernel
theorem dX11_pass_38 : decode prog_1_method_4_code 38 = .ok (.getfield 91, 3) := by decide +kernel
theorem dX11_pass_41 : decode prog_1_method_4_code 41 = .ok (.ireturn, 1) := by decide +kernel
noncomputable def F_X11_pass (v1 : Int) (M : bM) : Option (Int × bM) :=
  if v1 < 1 then (some ((-2), M)) else (if 5000 < v1 then (some ((-2), M)) else (b_g (b_i32 ((M 0 10) + v1)) (if ((M 0 10) + v1) ≤ 9999 then (b_g (b_i32 ((M 0 10) + v1)) (b_let (b_up M 0 10 ((M 0 10) + v1)) (fun M6 => some ((M6 0 10), M6)))) else (some ((-2), M)))))
theorem t_X11_pass {l : Launch} {E : bE} {Q : (Int × bM) → Prop} {v1 : Int} {M : bM} (h : b_wp (F_X11_pass v1 M) (Q)) : V l E xX11_pass (0, 0) 0 [(0, bR 0), (1, bI v1)] [] M (b_pI Q) := by
  unfold F_X11_pass at h
  refine v_iload_n (f := 1) 1 rfl dX11_pass_0 ?_
  refine v_iconst ⟨by decide, by decide⟩ dX11_pass_1 ?_
  refine v_icmp_lt (tgt := 24) dX11_pass_2 (by decide) (fun c1 => ?_) (fun c1 => ?_)
  · replace h := b_wp_t c1 h
    refine v_bipush ⟨by decide, by decide⟩ (by decide) dX11_pass_24 ?_
    refine v_ireturn rfl dX11_pass_26 ⟨by decide, by decide⟩ ?_
    exact ⟨_, rfl, h⟩
  · replace h := b_wp_f c1 h
    refine v_iload_n (f := 1) 1 rfl dX11_pass_5 ?_
    refine v_sipush ⟨by decide, by decide⟩ (by decide) dX11_pass_6 ?_
    refine v_icmp_gt (tgt := 24) dX11_pass_9 (by decide) (fun c2 => ?_) (fun c2 => ?_)
    · replace h := b_wp_t c2 h
      refine v_bipush ⟨by decide, by decide⟩ (by decide) dX11_pass_24 ?_
      refine v_ireturn rfl dX11_pass_26 ⟨by decide, by decide⟩ ?_
      exact ⟨_, rfl, h⟩
    · replace h := b_wp_f c2 h
      obtain ⟨g3, h⟩ := b_wp_g h
      refine v_aload_n (f := 0) 0 rfl dX11_pass_12 ?_
      refine v_getI (kf := 10) (kz := 10) rfl kd_0 rfl ⟨by decide, by decide⟩ rfl wf_11_91 dX11_pass_13 ?_
      refine v_iload_n (f := 1) 1 rfl dX11_pass_16 ?_
      refine v_iaddN g3 dX11_pass_17 ?_
      refine v_sipush ⟨by decide, by decide⟩ (by decide) dX11_pass_18 ?_
      refine v_icmp_le (tgt := 27) dX11_pass_21 (by decide) (fun c4 => ?_) (fun c4 => ?_)
      · replace h := b_wp_t c4 h
        obtain ⟨g5, h⟩ := b_wp_g h
        refine v_aload_n (f := 0) 0 rfl dX11_pass_27 ?_
        refine v_dup rfl dX11_pass_28 ?_
        refine v_getI (kf := 10) (kz := 10) rfl kd_0 rfl ⟨by decide, by decide⟩ rfl wf_11_91 dX11_pass_29 ?_
        refine v_iload_n (f := 1) 1 rfl dX11_pass_32 ?_
        refine v_iaddN g5 dX11_pass_33 ?_
        refine v_putI (kf := 10) (kz := 10) rfl kd_0 rfl ⟨by decide, by decide⟩ rfl wf_11_91 rfl rfl dX11_pass_34 ?_
        replace h := b_wp_l h
        refine v_aload_n (f := 0) 0 rfl dX11_pass_37 ?_
        refine v_getI (kf := 10) (kz := 10) rfl kd_0 rfl ⟨by decide, by decide⟩ rfl wf_11_91 dX11_pass_38 ?_
        refine v_ireturn rfl dX11_pass_41 ⟨by decide, by decide⟩ ?_
        exact ⟨_, rfl, h⟩
      · replace h := b_wp_f c4 h
        refine v_bipush ⟨by decide, by decide⟩ (by decide) dX11_pass_24 ?_
        refine v_ireturn rfl dX11_pass_26 ⟨by decide, by decide⟩ ?_
        exact ⟨_, rfl, h⟩
theorem cf_X11_pass {l : Launch} {E : bE} {M : bM} {v1 : Int} {Q : (Int × bM) → Prop} (h : b_wp (F_X11_pass v1 M) Q) : b_C l E xX11_pass yX11_pass [bR 0, bI v1] M (b_pI Q) := b_met (by decide) ⟨rfl, rfl⟩ (Nat.le_of_ble_eq_true rfl) (fun _ _ => t_X11_pass h)
abbrev xX11_isDay : bX := ("BurntHall", prog_1_method_56_code, 1, (Option.some Jvm.ClassFile.FieldType.boolean), b_rm 1 0 0, 0, "isDay")
abbrev yX11_isDay : MethodName := ⟨"BurntHall", "isDay", "(I)Z"⟩
theorem dX11_isDay_0 : decode prog_1_method_56_code 0 = .ok (.iload_n 0, 1) := by decide +kernel
theorem dX11_isDay_1 : decode prog_1_method_56_code 1 = .ok (.ifCond .lt 14, 3) := by decide +kernel
theorem dX11_isDay_4 : decode prog_1_method_56_code 4 = .ok (.iload_n 0, 1) := by decide +kernel
theorem dX11_isDay_5 : decode prog_1_method_56_code 5 = .ok (.sipush 9999, 3) := by decide +kernel
theorem dX11_isDay_8 : decode prog_1_method_56_code 8 = .ok (.if_icmp .gt 7, 3) := by decide +kernel
theorem dX11_isDay_11 : decode prog_1_method_56_code 11 = .ok (.iconst 1, 1) := by decide +kernel
theorem dX11_isDay_12 : decode prog_1_method_56_code 12 = .ok (.goto 4, 3) := by decide +kernel
theorem dX11_isDay_15 : decode prog_1_method_56_code 15 = .ok (.iconst 0, 1) := by decide +kernel
theorem dX11_isDay_16 : decode prog_1_method_56_code 16 = .ok (.ireturn, 1) := by decide +kernel
noncomputable def F_X11_isDay (v0 : Int) (M : bM) : Option (Int) :=
  if v0 < 0 then (some 0) else (if 9999 < v0 then (some 0) else (some 1))
theorem t_X11_isDay {l : Launch} {E : bE} {Q : Int → Prop} {v0 : Int} {M : bM} (h : b_wp (F_X11_isDay v0 M) (Q)) : V l E xX11_isDay (0, 0) 0 [(0, bI v0)] [] M (b_pIp M Q) := by
  unfold F_X11_isDay at h
  refine v_iload_n (f := 0) 0 rfl dX11_isDay_0 ?_
  refine v_if_lt (tgt := 15) dX11_isDay_1 (by decide) (fun c1 => ?_) (fun c1 => ?_)
  · replace h := b_wp_t c1 h
    refine v_iconst ⟨by decide, by decide⟩ dX11_isDay_15 ?_
    refine v_zreturn rfl (Or.inl rfl) dX11_isDay_16 ⟨by decide, by decide⟩ ?_
    exact ⟨_, rfl, rfl, h⟩
  · replace h := b_wp_f c1 h
    refine v_iload_n (f := 0) 0 rfl dX11_isDay_4 ?_
    refine v_sipush ⟨by decide, by decide⟩ (by decide) dX11_isDay_5 ?_
    refine v_icmp_gt (tgt := 15) dX11_isDay_8 (by decide) (fun c2 => ?_) (fun c2 => ?_)
    · replace h := b_wp_t c2 h
      refine v_iconst ⟨by decide, by decide⟩ dX11_isDay_15 ?_
      refine v_zreturn rfl (Or.inl rfl) dX11_isDay_16 ⟨by decide, by decide⟩ ?_
      exact ⟨_, rfl, rfl, h⟩
    · replace h := b_wp_f c2 h
      refine v_iconst ⟨by decide, by decide⟩ dX11_isDay_11 ?_
      refine v_goto (tgt := 16) dX11_isDay_12 (by decide) ?_
      refine v_zreturn rfl (Or.inr rfl) dX11_isDay_16 ⟨by decide, by decide⟩ ?_
      exact ⟨_, rfl, rfl, h⟩
theorem cf_X11_isDay {l : Launch} {E : bE} {M : bM} {v0 : Int} {Q : Int → Prop} (h : b_wp (F_X11_isDay v0 M) Q) : b_C l E xX11_isDay yX11_isDay [bI v0] M (b_pIp M Q) := b_met (by decide) ⟨rfl, rfl⟩ (Nat.le_of_ble_eq_true rfl) (fun _ _ => t_X11_isDay h)
abbrev xX8_add : bX := ("BurntHall$People", prog_10_method_3_code, 2, (Option.some Jvm.ClassFile.FieldType.int), b_rm 1 0 0, 0, "add")
abbrev yX8_add : MethodName := ⟨"BurntHall$People", "add", "(I)I"⟩
theorem dX8_add_0 : decode prog_10_method_3_code 0 = .ok (.aload_n 0, 1) := by decide +kernel
theorem dX8_add_1 : decode prog_10_method_3_code 1 = .ok (.getfield 44, 3) := by decide +kernel
theorem dX8_add_4 : decode prog_10_method_3_code 4 = .ok (.bipush 80, 2) := by decide +kernel
theorem dX8_add_6 : decode prog_10_method_3_code 6 = .ok (.if_icmp .lt 6, 3) := by decide +kernel
theorem dX8_add_9 : decode prog_10_method_3_code 9 = .ok (.bipush (-3), 2) := by decide +kernel
theorem dX8_add_11 : decode prog_10_method_3_code 11 = .ok (.ireturn, 1) := by decide +kernel
theorem dX8_add_12 : decode prog_10_method_3_code 12 = .ok (.aload_n 0, 1) := by decide +kernel
theorem dX8_add_13 : decode prog_10_method_3_code 13 = .ok (.getfield 11, 3) := by decide +kernel
theorem dX8_add_16 : decode prog_10_method_3_code 16 = .ok (.aload_n 0, 1) := by decide +kernel
theorem dX8_add_17 : decode prog_10_method_3_code 17 = .ok (.getfield 44, 3) := by decide +kernel
theorem dX8_add_20 : decode prog_10_method_3_code 20 = .ok (.iload_n 1, 1) := by decide +kernel
theorem dX8_add_21 : decode prog_10_method_3_code 21 = .ok (.iastore, 1) := by decide +kernel
theorem dX8_add_22 : decode prog_10_method_3_code 22 = .ok (.aload_n 0, 1) := by decide +kernel
theorem dX8_add_23 : decode prog_10_method_3_code 23 = .ok (.dup, 1) := by decide +kernel
theorem dX8_add_24 : decode prog_10_method_3_code 24 = .ok (.getfield 44, 3) := by decide +kernel
theorem dX8_add_27 : decode prog_10_method_3_code 27 = .ok (.iconst 1, 1) := by decide +kernel
theorem dX8_add_28 : decode prog_10_method_3_code 28 = .ok (.iadd, 1) := by decide +kernel
theorem dX8_add_29 : decode prog_10_method_3_code 29 = .ok (.putfield 44, 3) := by decide +kernel
theorem dX8_add_32 : decode prog_10_method_3_code 32 = .ok (.aload_n 0, 1) := by decide +kernel
theorem dX8_add_33 : decode prog_10_method_3_code 33 = .ok (.getfield 44, 3) := by decide +kernel
theorem dX8_add_36 : decode prog_10_method_3_code 36 = .ok (.iconst 1, 1) := by decide +kernel
theorem dX8_add_37 : decode prog_10_method_3_code 37 = .ok (.isub, 1) := by decide +kernel
theorem dX8_add_38 : decode prog_10_method_3_code 38 = .ok (.ireturn, 1) := by decide +kernel
noncomputable def F_X8_add (v1 : Int) (M : bM) : Option (Int × bM) :=
  if (M 2 0) < 80 then (b_g (0 ≤ (M 2 0) ∧ (M 2 0) < 80) (b_let (b_up M 76 (M 2 0) v1) (fun M3 => b_g (b_i32 ((M3 2 0) + 1)) (b_let (b_up M3 2 0 ((M3 2 0) + 1)) (fun M5 => b_g (b_i32 ((M5 2 0) - 1)) (some (((M5 2 0) - 1), M5))))))) else (some ((-3), M))
theorem t_X8_add {l : Launch} {E : bE} {Q : (Int × bM) → Prop} {v1 : Int} {M : bM} (h : b_wp (F_X8_add v1 M) (Q)) : V l E xX8_add (0, 0) 0 [(0, bR 2), (1, bI v1)] [] M (b_pI Q) := by
  unfold F_X8_add at h
  refine v_aload_n (f := 0) 0 rfl dX8_add_0 ?_
  refine v_getI (kf := 0) (kz := 0) rfl kd_2 rfl ⟨by decide, by decide⟩ rfl wf_8_44 dX8_add_1 ?_
  refine v_bipush ⟨by decide, by decide⟩ (by decide) dX8_add_4 ?_
  refine v_icmp_lt (tgt := 12) dX8_add_6 (by decide) (fun c1 => ?_) (fun c1 => ?_)
  · replace h := b_wp_t c1 h
    obtain ⟨g2, h⟩ := b_wp_g h
    refine v_aload_n (f := 0) 0 rfl dX8_add_12 ?_
    refine v_getR (kf := 2) (kz := 2) rfl kd_2 rfl ⟨by decide, by decide⟩ rfl wf_8_11 dX8_add_13 ?_
    refine v_aload_n (f := 0) 0 rfl dX8_add_16 ?_
    refine v_getI (kf := 0) (kz := 0) rfl kd_2 rfl ⟨by decide, by decide⟩ rfl wf_8_44 dX8_add_17 ?_
    refine v_iload_n (f := 1) 1 rfl dX8_add_20 ?_
    refine v_iastore kd_76 g2 (by decide) dX8_add_21 ?_
    replace h := b_wp_l h
    obtain ⟨g4, h⟩ := b_wp_g h
    refine v_aload_n (f := 0) 0 rfl dX8_add_22 ?_
    refine v_dup rfl dX8_add_23 ?_
    refine v_getI (kf := 0) (kz := 0) rfl kd_2 rfl ⟨by decide, by decide⟩ rfl wf_8_44 dX8_add_24 ?_
    refine v_iconst ⟨by decide, by decide⟩ dX8_add_27 ?_
    refine v_iaddN g4 dX8_add_28 ?_
    refine v_putI (kf := 0) (kz := 0) rfl kd_2 rfl ⟨by decide, by decide⟩ rfl wf_8_44 rfl rfl dX8_add_29 ?_
    replace h := b_wp_l h
    obtain ⟨g6, h⟩ := b_wp_g h
    refine v_aload_n (f := 0) 0 rfl dX8_add_32 ?_
    refine v_getI (kf := 0) (kz := 0) rfl kd_2 rfl ⟨by decide, by decide⟩ rfl wf_8_44 dX8_add_33 ?_
    refine v_iconst ⟨by decide, by decide⟩ dX8_add_36 ?_
    refine v_isubN g6 dX8_add_37 ?_
    refine v_ireturn rfl dX8_add_38 ⟨by decide, by decide⟩ ?_
    exact ⟨_, rfl, h⟩
  · replace h := b_wp_f c1 h
    refine v_bipush ⟨by decide, by decide⟩ (by decide) dX8_add_9 ?_
    refine v_ireturn rfl dX8_add_11 ⟨by decide, by decide⟩ ?_
    exact ⟨_, rfl, h⟩
theorem cf_X8_add {l : Launch} {E : bE} {M : bM} {v1 : Int} {Q : (Int × bM) → Prop} (h : b_wp (F_X8_add v1 M) Q) : b_C l E xX8_add yX8_add [bR 2, bI v1] M (b_pI Q) := b_met (by decide) ⟨rfl, rfl⟩ (Nat.le_of_ble_eq_true rfl) (fun _ _ => t_X8_add h)
abbrev xX11_person : bX := ("BurntHall", prog_1_method_5_code, 2, (Option.some Jvm.ClassFile.FieldType.int), b_rm 2 0 0, 0, "person")
abbrev yX11_person : MethodName := ⟨"BurntHall", "person", "(I)I"⟩
theorem dX11_person_0 : decode prog_1_method_5_code 0 = .ok (.iload_n 1, 1) := by decide +kernel
theorem dX11_person_1 : decode prog_1_method_5_code 1 = .ok (.invokestatic 102, 3) := by decide +kernel
theorem dX11_person_4 : decode prog_1_method_5_code 4 = .ok (.ifCond .eq 14, 3) := by decide +kernel
theorem dX11_person_7 : decode prog_1_method_5_code 7 = .ok (.aload_n 0, 1) := by decide +kernel
theorem dX11_person_8 : decode prog_1_method_5_code 8 = .ok (.getfield 19, 3) := by decide +kernel
theorem dX11_person_11 : decode prog_1_method_5_code 11 = .ok (.iload_n 1, 1) := by decide +kernel
theorem dX11_person_12 : decode prog_1_method_5_code 12 = .ok (.invokevirtual 106, 3) := by decide +kernel
theorem dX11_person_15 : decode prog_1_method_5_code 15 = .ok (.goto 5, 3) := by decide +kernel
theorem dX11_person_18 : decode prog_1_method_5_code 18 = .ok (.bipush (-2), 2) := by decide +kernel
theorem dX11_person_20 : decode prog_1_method_5_code 20 = .ok (.ireturn, 1) := by decide +kernel
noncomputable def F_X11_person (v1 : Int) (M : bM) : Option (Int × bM) :=
  b_bind (F_X11_isDay v1 M) (fun x1 => if x1 = 0 then (some ((-2), M)) else (b_bind (F_X8_add v1 M) (fun t => b_two t (fun x3 M4 => some (x3, M4)))))
theorem t_X11_person {l : Launch} {E : bE} {Q : (Int × bM) → Prop} {v1 : Int} {M : bM} (h : b_wp (F_X11_person v1 M) (Q)) : V l E xX11_person (0, 0) 0 [(0, bR 0), (1, bI v1)] [] M (b_pI Q) := by
  unfold F_X11_person at h
  refine v_iload_n (f := 1) 1 rfl dX11_person_0 ?_
  refine v_cSIp (nA := 1) (As := [bI _]) (ix := 102) (cf_X11_isDay (b_wp_b h)) rfl wc_X11_isDay wm_11_102 wi_X11_isDay wn_11 ⟨by decide, by decide, by decide⟩ rfl ⟨by decide, by decide⟩ ⟨by decide, by decide⟩ (Nat.le_of_ble_eq_true rfl) dX11_person_1 (fun x1 h => ?_)
  refine v_if_eq (tgt := 18) dX11_person_4 (by decide) (fun c2 => ?_) (fun c2 => ?_)
  · replace h := b_wp_t c2 h
    refine v_bipush ⟨by decide, by decide⟩ (by decide) dX11_person_18 ?_
    refine v_ireturn rfl dX11_person_20 ⟨by decide, by decide⟩ ?_
    exact ⟨_, rfl, h⟩
  · replace h := b_wp_f c2 h
    refine v_aload_n (f := 0) 0 rfl dX11_person_7 ?_
    refine v_getR (kf := 1) (kz := 1) rfl kd_0 rfl ⟨by decide, by decide⟩ rfl wf_11_19 dX11_person_8 ?_
    refine v_iload_n (f := 1) 1 rfl dX11_person_11 ?_
    refine v_cVI (nA := 1) (As := [bI _]) (ix := 106) (cf_X8_add (b_wp_b h)) rfl kd_2 rfl rfl wc_X8_add wm_11_106 wi_X8_add ws_X8_add wn_8 ⟨by decide, by decide, by decide⟩ rfl ⟨by decide, by decide⟩ ⟨by decide, by decide⟩ (Nat.le_of_ble_eq_true rfl) dX11_person_12 (fun x3 M4 h => ?_)
    replace h := b_wp_two h
    refine v_goto (tgt := 20) dX11_person_15 (by decide) ?_
    refine v_ireturn rfl dX11_person_20 ⟨by decide, by decide⟩ ?_
    exact ⟨_, rfl, h⟩
theorem cf_X11_person {l : Launch} {E : bE} {M : bM} {v1 : Int} {Q : (Int × bM) → Prop} (h : b_wp (F_X11_person v1 M) Q) : b_C l E xX11_person yX11_person [bR 0, bI v1] M (b_pI Q) := b_met (by decide) ⟨rfl, rfl⟩ (Nat.le_of_ble_eq_true rfl) (fun _ _ => t_X11_person h)
abbrev xX8_has : bX := ("BurntHall$People", prog_10_method_2_code, 2, (Option.some Jvm.ClassFile.FieldType.boolean), b_rm 1 0 0, 0, "has")
abbrev yX8_has : MethodName := ⟨"BurntHall$People", "has", "(I)Z"⟩
theorem dX8_has_0 : decode prog_10_method_2_code 0 = .ok (.iload_n 1, 1) := by decide +kernel
theorem dX8_has_1 : decode prog_10_method_2_code 1 = .ok (.ifCond .lt 15, 3) := by decide +kernel
theorem dX8_has_4 : decode prog_10_method_2_code 4 = .ok (.iload_n 1, 1) := by decide +kernel
theorem dX8_has_5 : decode prog_10_method_2_code 5 = .ok (.aload_n 0, 1) := by decide +kernel
theorem dX8_has_6 : decode prog_10_method_2_code 6 = .ok (.getfield 44, 3) := by decide +kernel
theorem dX8_has_9 : decode prog_10_method_2_code 9 = .ok (.if_icmp .ge 7, 3) := by decide +kernel
theorem dX8_has_12 : decode prog_10_method_2_code 12 = .ok (.iconst 1, 1) := by decide +kernel
theorem dX8_has_13 : decode prog_10_method_2_code 13 = .ok (.goto 4, 3) := by decide +kernel
theorem dX8_has_16 : decode prog_10_method_2_code 16 = .ok (.iconst 0, 1) := by decide +kernel
theorem dX8_has_17 : decode prog_10_method_2_code 17 = .ok (.ireturn, 1) := by decide +kernel
noncomputable def F_X8_has (v1 : Int) (M : bM) : Option (Int) :=
  if v1 < 0 then (some 0) else (if (M 2 0) ≤ v1 then (some 0) else (some 1))
theorem t_X8_has {l : Launch} {E : bE} {Q : Int → Prop} {v1 : Int} {M : bM} (h : b_wp (F_X8_has v1 M) (Q)) : V l E xX8_has (0, 0) 0 [(0, bR 2), (1, bI v1)] [] M (b_pIp M Q) := by
  unfold F_X8_has at h
  refine v_iload_n (f := 1) 1 rfl dX8_has_0 ?_
  refine v_if_lt (tgt := 16) dX8_has_1 (by decide) (fun c1 => ?_) (fun c1 => ?_)
  · replace h := b_wp_t c1 h
    refine v_iconst ⟨by decide, by decide⟩ dX8_has_16 ?_
    refine v_zreturn rfl (Or.inl rfl) dX8_has_17 ⟨by decide, by decide⟩ ?_
    exact ⟨_, rfl, rfl, h⟩
  · replace h := b_wp_f c1 h
    refine v_iload_n (f := 1) 1 rfl dX8_has_4 ?_
    refine v_aload_n (f := 0) 0 rfl dX8_has_5 ?_
    refine v_getI (kf := 0) (kz := 0) rfl kd_2 rfl ⟨by decide, by decide⟩ rfl wf_8_44 dX8_has_6 ?_
    refine v_icmp_ge (tgt := 16) dX8_has_9 (by decide) (fun c2 => ?_) (fun c2 => ?_)
    · replace h := b_wp_t c2 h
      refine v_iconst ⟨by decide, by decide⟩ dX8_has_16 ?_
      refine v_zreturn rfl (Or.inl rfl) dX8_has_17 ⟨by decide, by decide⟩ ?_
      exact ⟨_, rfl, rfl, h⟩
    · replace h := b_wp_f c2 h
      refine v_iconst ⟨by decide, by decide⟩ dX8_has_12 ?_
      refine v_goto (tgt := 17) dX8_has_13 (by decide) ?_
      refine v_zreturn rfl (Or.inr rfl) dX8_has_17 ⟨by decide, by decide⟩ ?_
      exact ⟨_, rfl, rfl, h⟩
theorem cf_X8_has {l : Launch} {E : bE} {M : bM} {v1 : Int} {Q : Int → Prop} (h : b_wp (F_X8_has v1 M) Q) : b_C l E xX8_has yX8_has [bR 2, bI v1] M (b_pIp M Q) := b_met (by decide) ⟨rfl, rfl⟩ (Nat.le_of_ble_eq_true rfl) (fun _ _ => t_X8_has h)
abbrev xX4_forget : bX := ("BurntHall$Evidence", prog_6_method_4_code, 1, (Option.none : Option Jvm.ClassFile.FieldType), b_rm 1 0 0, 0, "forget")
abbrev yX4_forget : MethodName := ⟨"BurntHall$Evidence", "forget", "()V"⟩
theorem dX4_forget_0 : decode prog_6_method_4_code 0 = .ok (.aload_n 0, 1) := by decide +kernel
theorem dX4_forget_1 : decode prog_6_method_4_code 1 = .ok (.iconst 0, 1) := by decide +kernel
theorem dX4_forget_2 : decode prog_6_method_4_code 2 = .ok (.putfield 47, 3) := by decide +kernel
theorem dX4_forget_5 : decode prog_6_method_4_code 5 = .ok (.return_, 1) := by decide +kernel
noncomputable def F_X4_forget (M : bM) : Option (bM) :=
  b_let (b_up M 6 5 0) (fun M1 => some M1)
theorem t_X4_forget {l : Launch} {E : bE} {Q : bM → Prop} {M : bM} (h : b_wp (F_X4_forget M) (Q)) : V l E xX4_forget (0, 0) 0 [(0, bR 6)] [] M (b_pV Q) := by
  unfold F_X4_forget at h
  refine v_aload_n (f := 0) 0 rfl dX4_forget_0 ?_
  refine v_iconst ⟨by decide, by decide⟩ dX4_forget_1 ?_
  refine v_putZ (kf := 5) (kz := 5) rfl kd_6 rfl ⟨by decide, by decide⟩ rfl (Or.inl rfl) wf_4_47 rfl rfl dX4_forget_2 ?_
  replace h := b_wp_l h
  refine v_return rfl dX4_forget_5 ⟨by decide, by decide⟩ ?_
  exact ⟨rfl, h⟩
theorem cf_X4_forget {l : Launch} {E : bE} {M : bM} {Q : bM → Prop} (h : b_wp (F_X4_forget M) Q) : b_C l E xX4_forget yX4_forget [bR 6] M (b_pV Q) := b_met (by decide) ⟨rfl, rfl⟩ (Nat.le_of_ble_eq_true rfl) (fun _ _ => t_X4_forget h)
abbrev xX8_tell : bX := ("BurntHall$People", prog_10_method_4_code, 5, (Option.some Jvm.ClassFile.FieldType.int), b_rm 1 0 0, 0, "tell")
abbrev yX8_tell : MethodName := ⟨"BurntHall$People", "tell", "(IIII)I"⟩
theorem dX8_tell_0 : decode prog_10_method_4_code 0 = .ok (.aload_n 0, 1) := by decide +kernel
theorem dX8_tell_1 : decode prog_10_method_4_code 1 = .ok (.getfield 47, 3) := by decide +kernel
theorem dX8_tell_4 : decode prog_10_method_4_code 4 = .ok (.sipush 400, 3) := by decide +kernel
theorem dX8_tell_7 : decode prog_10_method_4_code 7 = .ok (.if_icmp .lt 6, 3) := by decide +kernel
theorem dX8_tell_10 : decode prog_10_method_4_code 10 = .ok (.bipush (-3), 2) := by decide +kernel
theorem dX8_tell_12 : decode prog_10_method_4_code 12 = .ok (.ireturn, 1) := by decide +kernel
theorem dX8_tell_13 : decode prog_10_method_4_code 13 = .ok (.aload_n 0, 1) := by decide +kernel
theorem dX8_tell_14 : decode prog_10_method_4_code 14 = .ok (.getfield 15, 3) := by decide +kernel
theorem dX8_tell_17 : decode prog_10_method_4_code 17 = .ok (.aload_n 0, 1) := by decide +kernel
theorem dX8_tell_18 : decode prog_10_method_4_code 18 = .ok (.getfield 47, 3) := by decide +kernel
theorem dX8_tell_21 : decode prog_10_method_4_code 21 = .ok (.iload_n 1, 1) := by decide +kernel
theorem dX8_tell_22 : decode prog_10_method_4_code 22 = .ok (.iastore, 1) := by decide +kernel
theorem dX8_tell_23 : decode prog_10_method_4_code 23 = .ok (.aload_n 0, 1) := by decide +kernel
theorem dX8_tell_24 : decode prog_10_method_4_code 24 = .ok (.getfield 18, 3) := by decide +kernel
theorem dX8_tell_27 : decode prog_10_method_4_code 27 = .ok (.aload_n 0, 1) := by decide +kernel
theorem dX8_tell_28 : decode prog_10_method_4_code 28 = .ok (.getfield 47, 3) := by decide +kernel
theorem dX8_tell_31 : decode prog_10_method_4_code 31 = .ok (.iload_n 2, 1) := by decide +kernel
theorem dX8_tell_32 : decode prog_10_method_4_code 32 = .ok (.iastore, 1) := by decide +kernel
theorem dX8_tell_33 : decode prog_10_method_4_code 33 = .ok (.aload_n 0, 1) := by decide +kernel
theorem dX8_tell_34 : decode prog_10_method_4_code 34 = .ok (.getfield 21, 3) := by decide +kernel
theorem dX8_tell_37 : decode prog_10_method_4_code 37 = .ok (.aload_n 0, 1) := by decide +kernel
theorem dX8_tell_38 : decode prog_10_method_4_code 38 = .ok (.getfield 47, 3) := by decide +kernel
theorem dX8_tell_41 : decode prog_10_method_4_code 41 = .ok (.iload_n 3, 1) := by decide +kernel
theorem dX8_tell_42 : decode prog_10_method_4_code 42 = .ok (.iastore, 1) := by decide +kernel
theorem dX8_tell_43 : decode prog_10_method_4_code 43 = .ok (.aload_n 0, 1) := by decide +kernel
theorem dX8_tell_44 : decode prog_10_method_4_code 44 = .ok (.getfield 24, 3) := by decide +kernel
theorem dX8_tell_47 : decode prog_10_method_4_code 47 = .ok (.aload_n 0, 1) := by decide +kernel
theorem dX8_tell_48 : decode prog_10_method_4_code 48 = .ok (.getfield 47, 3) := by decide +kernel
theorem dX8_tell_51 : decode prog_10_method_4_code 51 = .ok (.iload 4, 2) := by decide +kernel
theorem dX8_tell_53 : decode prog_10_method_4_code 53 = .ok (.iastore, 1) := by decide +kernel
theorem dX8_tell_54 : decode prog_10_method_4_code 54 = .ok (.aload_n 0, 1) := by decide +kernel
theorem dX8_tell_55 : decode prog_10_method_4_code 55 = .ok (.dup, 1) := by decide +kernel
theorem dX8_tell_56 : decode prog_10_method_4_code 56 = .ok (.getfield 47, 3) := by decide +kernel
theorem dX8_tell_59 : decode prog_10_method_4_code 59 = .ok (.iconst 1, 1) := by decide +kernel
theorem dX8_tell_60 : decode prog_10_method_4_code 60 = .ok (.iadd, 1) := by decide +kernel
theorem dX8_tell_61 : decode prog_10_method_4_code 61 = .ok (.putfield 47, 3) := by decide +kernel
theorem dX8_tell_64 : decode prog_10_method_4_code 64 = .ok (.aload_n 0, 1) := by decide +kernel
theorem dX8_tell_65 : decode prog_10_method_4_code 65 = .ok (.getfield 47, 3) := by decide +kernel
theorem dX8_tell_68 : decode prog_10_method_4_code 68 = .ok (.ireturn, 1) := by decide +kernel
noncomputable def F_X8_tell (v1 : Int) (v2 : Int) (v3 : Int) (v4 : Int) (M : bM) : Option (Int × bM) :=
  if (M 2 1) < 400 then (b_g (0 ≤ (M 2 1) ∧ (M 2 1) < 400) (b_let (b_up M 77 (M 2 1) v1) (fun M3 => b_g (0 ≤ (M3 2 1) ∧ (M3 2 1) < 400) (b_let (b_up M3 78 (M3 2 1) v2) (fun M5 => b_g (0 ≤ (M5 2 1) ∧ (M5 2 1) < 400) (b_let (b_up M5 79 (M5 2 1) v3) (fun M7 => b_g (0 ≤ (M7 2 1) ∧ (M7 2 1) < 400) (b_let (b_up M7 80 (M7 2 1) v4) (fun M9 => b_g (b_i32 ((M9 2 1) + 1)) (b_let (b_up M9 2 1 ((M9 2 1) + 1)) (fun M11 => some ((M11 2 1), M11)))))))))))) else (some ((-3), M))
theorem t_X8_tell {l : Launch} {E : bE} {Q : (Int × bM) → Prop} {v1 : Int} {v2 : Int} {v3 : Int} {v4 : Int} {M : bM} (h : b_wp (F_X8_tell v1 v2 v3 v4 M) (Q)) : V l E xX8_tell (0, 0) 0 [(0, bR 2), (1, bI v1), (2, bI v2), (3, bI v3), (4, bI v4)] [] M (b_pI Q) := by
  unfold F_X8_tell at h
  refine v_aload_n (f := 0) 0 rfl dX8_tell_0 ?_
  refine v_getI (kf := 1) (kz := 1) rfl kd_2 rfl ⟨by decide, by decide⟩ rfl wf_8_47 dX8_tell_1 ?_
  refine v_sipush ⟨by decide, by decide⟩ (by decide) dX8_tell_4 ?_
  refine v_icmp_lt (tgt := 13) dX8_tell_7 (by decide) (fun c1 => ?_) (fun c1 => ?_)
  · replace h := b_wp_t c1 h
    obtain ⟨g2, h⟩ := b_wp_g h
    refine v_aload_n (f := 0) 0 rfl dX8_tell_13 ?_
    refine v_getR (kf := 3) (kz := 3) rfl kd_2 rfl ⟨by decide, by decide⟩ rfl wf_8_15 dX8_tell_14 ?_
    refine v_aload_n (f := 0) 0 rfl dX8_tell_17 ?_
    refine v_getI (kf := 1) (kz := 1) rfl kd_2 rfl ⟨by decide, by decide⟩ rfl wf_8_47 dX8_tell_18 ?_
    refine v_iload_n (f := 1) 1 rfl dX8_tell_21 ?_
    refine v_iastore kd_77 g2 (by decide) dX8_tell_22 ?_
    replace h := b_wp_l h
    obtain ⟨g4, h⟩ := b_wp_g h
    refine v_aload_n (f := 0) 0 rfl dX8_tell_23 ?_
    refine v_getR (kf := 4) (kz := 4) rfl kd_2 rfl ⟨by decide, by decide⟩ rfl wf_8_18 dX8_tell_24 ?_
    refine v_aload_n (f := 0) 0 rfl dX8_tell_27 ?_
    refine v_getI (kf := 1) (kz := 1) rfl kd_2 rfl ⟨by decide, by decide⟩ rfl wf_8_47 dX8_tell_28 ?_
    refine v_iload_n (f := 2) 2 rfl dX8_tell_31 ?_
    refine v_iastore kd_78 g4 (by decide) dX8_tell_32 ?_
    replace h := b_wp_l h
    obtain ⟨g6, h⟩ := b_wp_g h
    refine v_aload_n (f := 0) 0 rfl dX8_tell_33 ?_
    refine v_getR (kf := 5) (kz := 5) rfl kd_2 rfl ⟨by decide, by decide⟩ rfl wf_8_21 dX8_tell_34 ?_
    refine v_aload_n (f := 0) 0 rfl dX8_tell_37 ?_
    refine v_getI (kf := 1) (kz := 1) rfl kd_2 rfl ⟨by decide, by decide⟩ rfl wf_8_47 dX8_tell_38 ?_
    refine v_iload_n (f := 3) 3 rfl dX8_tell_41 ?_
    refine v_iastore kd_79 g6 (by decide) dX8_tell_42 ?_
    replace h := b_wp_l h
    obtain ⟨g8, h⟩ := b_wp_g h
    refine v_aload_n (f := 0) 0 rfl dX8_tell_43 ?_
    refine v_getR (kf := 6) (kz := 6) rfl kd_2 rfl ⟨by decide, by decide⟩ rfl wf_8_24 dX8_tell_44 ?_
    refine v_aload_n (f := 0) 0 rfl dX8_tell_47 ?_
    refine v_getI (kf := 1) (kz := 1) rfl kd_2 rfl ⟨by decide, by decide⟩ rfl wf_8_47 dX8_tell_48 ?_
    refine v_iload (i := 4) 4 rfl dX8_tell_51 ?_
    refine v_iastore kd_80 g8 (by decide) dX8_tell_53 ?_
    replace h := b_wp_l h
    obtain ⟨g10, h⟩ := b_wp_g h
    refine v_aload_n (f := 0) 0 rfl dX8_tell_54 ?_
    refine v_dup rfl dX8_tell_55 ?_
    refine v_getI (kf := 1) (kz := 1) rfl kd_2 rfl ⟨by decide, by decide⟩ rfl wf_8_47 dX8_tell_56 ?_
    refine v_iconst ⟨by decide, by decide⟩ dX8_tell_59 ?_
    refine v_iaddN g10 dX8_tell_60 ?_
    refine v_putI (kf := 1) (kz := 1) rfl kd_2 rfl ⟨by decide, by decide⟩ rfl wf_8_47 rfl rfl dX8_tell_61 ?_
    replace h := b_wp_l h
    refine v_aload_n (f := 0) 0 rfl dX8_tell_64 ?_
    refine v_getI (kf := 1) (kz := 1) rfl kd_2 rfl ⟨by decide, by decide⟩ rfl wf_8_47 dX8_tell_65 ?_
    refine v_ireturn rfl dX8_tell_68 ⟨by decide, by decide⟩ ?_
    exact ⟨_, rfl, h⟩
  · replace h := b_wp_f c1 h
    refine v_bipush ⟨by decide, by decide⟩ (by decide) dX8_tell_10 ?_
    refine v_ireturn rfl dX8_tell_12 ⟨by decide, by decide⟩ ?_
    exact ⟨_, rfl, h⟩
theorem cf_X8_tell {l : Launch} {E : bE} {M : bM} {v1 : Int} {v2 : Int} {v3 : Int} {v4 : Int} {Q : (Int × bM) → Prop} (h : b_wp (F_X8_tell v1 v2 v3 v4 M) Q) : b_C l E xX8_tell yX8_tell [bR 2, bI v1, bI v2, bI v3, bI v4] M (b_pI Q) := b_met (by decide) ⟨rfl, rfl⟩ (Nat.le_of_ble_eq_true rfl) (fun _ _ => t_X8_tell h)
abbrev xX11_dead : bX := ("BurntHall", prog_1_method_6_code, 3, (Option.some Jvm.ClassFile.FieldType.int), b_rm 2 0 0, 0, "dead")
abbrev yX11_dead : MethodName := ⟨"BurntHall", "dead", "(II)I"⟩
theorem dX11_dead_0 : decode prog_1_method_6_code 0 = .ok (.aload_n 0, 1) := by decide +kernel
theorem dX11_dead_1 : decode prog_1_method_6_code 1 = .ok (.getfield 19, 3) := by decide +kernel
theorem dX11_dead_4 : decode prog_1_method_6_code 4 = .ok (.iload_n 1, 1) := by decide +kernel
theorem dX11_dead_5 : decode prog_1_method_6_code 5 = .ok (.invokevirtual 110, 3) := by decide +kernel
theorem dX11_dead_8 : decode prog_1_method_6_code 8 = .ok (.ifCond .eq 10, 3) := by decide +kernel
theorem dX11_dead_11 : decode prog_1_method_6_code 11 = .ok (.iload_n 2, 1) := by decide +kernel
theorem dX11_dead_12 : decode prog_1_method_6_code 12 = .ok (.invokestatic 102, 3) := by decide +kernel
theorem dX11_dead_15 : decode prog_1_method_6_code 15 = .ok (.ifCond .ne 6, 3) := by decide +kernel
theorem dX11_dead_18 : decode prog_1_method_6_code 18 = .ok (.bipush (-2), 2) := by decide +kernel
theorem dX11_dead_20 : decode prog_1_method_6_code 20 = .ok (.ireturn, 1) := by decide +kernel
theorem dX11_dead_21 : decode prog_1_method_6_code 21 = .ok (.aload_n 0, 1) := by decide +kernel
theorem dX11_dead_22 : decode prog_1_method_6_code 22 = .ok (.getfield 51, 3) := by decide +kernel
theorem dX11_dead_25 : decode prog_1_method_6_code 25 = .ok (.invokevirtual 113, 3) := by decide +kernel
theorem dX11_dead_28 : decode prog_1_method_6_code 28 = .ok (.aload_n 0, 1) := by decide +kernel
theorem dX11_dead_29 : decode prog_1_method_6_code 29 = .ok (.getfield 19, 3) := by decide +kernel
theorem dX11_dead_32 : decode prog_1_method_6_code 32 = .ok (.iconst 0, 1) := by decide +kernel
theorem dX11_dead_33 : decode prog_1_method_6_code 33 = .ok (.iload_n 1, 1) := by decide +kernel
theorem dX11_dead_34 : decode prog_1_method_6_code 34 = .ok (.iload_n 2, 1) := by decide +kernel
theorem dX11_dead_35 : decode prog_1_method_6_code 35 = .ok (.aload_n 0, 1) := by decide +kernel
theorem dX11_dead_36 : decode prog_1_method_6_code 36 = .ok (.getfield 91, 3) := by decide +kernel
theorem dX11_dead_39 : decode prog_1_method_6_code 39 = .ok (.invokevirtual 116, 3) := by decide +kernel
theorem dX11_dead_42 : decode prog_1_method_6_code 42 = .ok (.ireturn, 1) := by decide +kernel
noncomputable def F_X11_dead (v1 : Int) (v2 : Int) (M : bM) : Option (Int × bM) :=
  b_bind (F_X8_has v1 M) (fun x1 => if x1 = 0 then (some ((-2), M)) else (b_bind (F_X11_isDay v2 M) (fun x3 => if x3 = 0 then (some ((-2), M)) else (b_bind (F_X4_forget M) (fun M5 => b_bind (F_X8_tell 0 v1 v2 (M5 0 10) M5) (fun t => b_two t (fun x6 M7 => some (x6, M7))))))))
theorem t_X11_dead {l : Launch} {E : bE} {Q : (Int × bM) → Prop} {v1 : Int} {v2 : Int} {M : bM} (h : b_wp (F_X11_dead v1 v2 M) (Q)) : V l E xX11_dead (0, 0) 0 [(0, bR 0), (1, bI v1), (2, bI v2)] [] M (b_pI Q) := by
  unfold F_X11_dead at h
  refine v_aload_n (f := 0) 0 rfl dX11_dead_0 ?_
  refine v_getR (kf := 1) (kz := 1) rfl kd_0 rfl ⟨by decide, by decide⟩ rfl wf_11_19 dX11_dead_1 ?_
  refine v_iload_n (f := 1) 1 rfl dX11_dead_4 ?_
  refine v_cVIp (nA := 1) (As := [bI _]) (ix := 110) (cf_X8_has (b_wp_b h)) rfl kd_2 rfl rfl wc_X8_has wm_11_110 wi_X8_has ws_X8_has wn_8 ⟨by decide, by decide, by decide⟩ rfl ⟨by decide, by decide⟩ ⟨by decide, by decide⟩ (Nat.le_of_ble_eq_true rfl) dX11_dead_5 (fun x1 h => ?_)
  refine v_if_eq (tgt := 18) dX11_dead_8 (by decide) (fun c2 => ?_) (fun c2 => ?_)
  · replace h := b_wp_t c2 h
    refine v_bipush ⟨by decide, by decide⟩ (by decide) dX11_dead_18 ?_
    refine v_ireturn rfl dX11_dead_20 ⟨by decide, by decide⟩ ?_
    exact ⟨_, rfl, h⟩
  · replace h := b_wp_f c2 h
    refine v_iload_n (f := 2) 2 rfl dX11_dead_11 ?_
    refine v_cSIp (nA := 1) (As := [bI _]) (ix := 102) (cf_X11_isDay (b_wp_b h)) rfl wc_X11_isDay wm_11_102 wi_X11_isDay wn_11 ⟨by decide, by decide, by decide⟩ rfl ⟨by decide, by decide⟩ ⟨by decide, by decide⟩ (Nat.le_of_ble_eq_true rfl) dX11_dead_12 (fun x3 h => ?_)
    refine v_if_ne (tgt := 21) dX11_dead_15 (by decide) (fun c4 => ?_) (fun c4 => ?_)
    · replace h := b_wp_f c4 h
      refine v_aload_n (f := 0) 0 rfl dX11_dead_21 ?_
      refine v_getR (kf := 5) (kz := 5) rfl kd_0 rfl ⟨by decide, by decide⟩ rfl wf_11_51 dX11_dead_22 ?_
      refine v_cVV (nA := 0) (As := []) (ix := 113) (cf_X4_forget (b_wp_b h)) rfl kd_6 rfl rfl wc_X4_forget wm_11_113 wi_X4_forget ws_X4_forget wn_4 ⟨by decide, by decide, by decide⟩ rfl ⟨by decide, by decide⟩ ⟨by decide, by decide⟩ (Nat.le_of_ble_eq_true rfl) dX11_dead_25 (fun M5 h => ?_)
      refine v_aload_n (f := 0) 0 rfl dX11_dead_28 ?_
      refine v_getR (kf := 1) (kz := 1) rfl kd_0 rfl ⟨by decide, by decide⟩ rfl wf_11_19 dX11_dead_29 ?_
      refine v_iconst ⟨by decide, by decide⟩ dX11_dead_32 ?_
      refine v_iload_n (f := 1) 1 rfl dX11_dead_33 ?_
      refine v_iload_n (f := 2) 2 rfl dX11_dead_34 ?_
      refine v_aload_n (f := 0) 0 rfl dX11_dead_35 ?_
      refine v_getI (kf := 10) (kz := 10) rfl kd_0 rfl ⟨by decide, by decide⟩ rfl wf_11_91 dX11_dead_36 ?_
      refine v_cVI (nA := 4) (As := [bI _, bI _, bI _, bI _]) (ix := 116) (cf_X8_tell (b_wp_b h)) rfl kd_2 rfl rfl wc_X8_tell wm_11_116 wi_X8_tell ws_X8_tell wn_8 ⟨by decide, by decide, by decide⟩ rfl ⟨by decide, by decide⟩ ⟨by decide, by decide⟩ (Nat.le_of_ble_eq_true rfl) dX11_dead_39 (fun x6 M7 h => ?_)
      replace h := b_wp_two h
      refine v_ireturn rfl dX11_dead_42 ⟨by decide, by decide⟩ ?_
      exact ⟨_, rfl, h⟩
    · replace h := b_wp_t c4 h
      refine v_bipush ⟨by decide, by decide⟩ (by decide) dX11_dead_18 ?_
      refine v_ireturn rfl dX11_dead_20 ⟨by decide, by decide⟩ ?_
      exact ⟨_, rfl, h⟩
theorem cf_X11_dead {l : Launch} {E : bE} {M : bM} {v1 : Int} {v2 : Int} {Q : (Int × bM) → Prop} (h : b_wp (F_X11_dead v1 v2 M) Q) : b_C l E xX11_dead yX11_dead [bR 0, bI v1, bI v2] M (b_pI Q) := b_met (by decide) ⟨rfl, rfl⟩ (Nat.le_of_ble_eq_true rfl) (fun _ _ => t_X11_dead h)
abbrev xX11_tellOfTwo : bX := ("BurntHall", prog_1_method_10_code, 4, (Option.some Jvm.ClassFile.FieldType.int), b_rm 2 0 0, 0, "tellOfTwo")
abbrev yX11_tellOfTwo : MethodName := ⟨"BurntHall", "tellOfTwo", "(III)I"⟩
theorem dX11_tellOfTwo_0 : decode prog_1_method_10_code 0 = .ok (.aload_n 0, 1) := by decide +kernel
theorem dX11_tellOfTwo_1 : decode prog_1_method_10_code 1 = .ok (.getfield 19, 3) := by decide +kernel
theorem dX11_tellOfTwo_4 : decode prog_1_method_10_code 4 = .ok (.iload_n 2, 1) := by decide +kernel
theorem dX11_tellOfTwo_5 : decode prog_1_method_10_code 5 = .ok (.invokevirtual 110, 3) := by decide +kernel
theorem dX11_tellOfTwo_8 : decode prog_1_method_10_code 8 = .ok (.ifCond .eq 19, 3) := by decide +kernel
theorem dX11_tellOfTwo_11 : decode prog_1_method_10_code 11 = .ok (.aload_n 0, 1) := by decide +kernel
theorem dX11_tellOfTwo_12 : decode prog_1_method_10_code 12 = .ok (.getfield 19, 3) := by decide +kernel
theorem dX11_tellOfTwo_15 : decode prog_1_method_10_code 15 = .ok (.iload_n 3, 1) := by decide +kernel
theorem dX11_tellOfTwo_16 : decode prog_1_method_10_code 16 = .ok (.invokevirtual 110, 3) := by decide +kernel
theorem dX11_tellOfTwo_19 : decode prog_1_method_10_code 19 = .ok (.ifCond .eq 8, 3) := by decide +kernel
theorem dX11_tellOfTwo_22 : decode prog_1_method_10_code 22 = .ok (.iload_n 2, 1) := by decide +kernel
theorem dX11_tellOfTwo_23 : decode prog_1_method_10_code 23 = .ok (.iload_n 3, 1) := by decide +kernel
theorem dX11_tellOfTwo_24 : decode prog_1_method_10_code 24 = .ok (.if_icmp .ne 6, 3) := by decide +kernel
theorem dX11_tellOfTwo_27 : decode prog_1_method_10_code 27 = .ok (.bipush (-2), 2) := by decide +kernel
theorem dX11_tellOfTwo_29 : decode prog_1_method_10_code 29 = .ok (.ireturn, 1) := by decide +kernel
theorem dX11_tellOfTwo_30 : decode prog_1_method_10_code 30 = .ok (.aload_n 0, 1) := by decide +kernel
theorem dX11_tellOfTwo_31 : decode prog_1_method_10_code 31 = .ok (.getfield 51, 3) := by decide +kernel
theorem dX11_tellOfTwo_34 : decode prog_1_method_10_code 34 = .ok (.invokevirtual 113, 3) := by decide +kernel
theorem dX11_tellOfTwo_37 : decode prog_1_method_10_code 37 = .ok (.aload_n 0, 1) := by decide +kernel
theorem dX11_tellOfTwo_38 : decode prog_1_method_10_code 38 = .ok (.getfield 19, 3) := by decide +kernel
theorem dX11_tellOfTwo_41 : decode prog_1_method_10_code 41 = .ok (.iload_n 1, 1) := by decide +kernel
theorem dX11_tellOfTwo_42 : decode prog_1_method_10_code 42 = .ok (.iload_n 2, 1) := by decide +kernel
theorem dX11_tellOfTwo_43 : decode prog_1_method_10_code 43 = .ok (.iload_n 3, 1) := by decide +kernel
theorem dX11_tellOfTwo_44 : decode prog_1_method_10_code 44 = .ok (.aload_n 0, 1) := by decide +kernel
theorem dX11_tellOfTwo_45 : decode prog_1_method_10_code 45 = .ok (.getfield 91, 3) := by decide +kernel
theorem dX11_tellOfTwo_48 : decode prog_1_method_10_code 48 = .ok (.invokevirtual 116, 3) := by decide +kernel
theorem dX11_tellOfTwo_51 : decode prog_1_method_10_code 51 = .ok (.ireturn, 1) := by decide +kernel
noncomputable def F_X11_tellOfTwo (v1 : Int) (v2 : Int) (v3 : Int) (M : bM) : Option (Int × bM) :=
  b_bind (F_X8_has v2 M) (fun x1 => if x1 = 0 then (some ((-2), M)) else (b_bind (F_X8_has v3 M) (fun x3 => if x3 = 0 then (some ((-2), M)) else (if v2 = v3 then (some ((-2), M)) else (b_bind (F_X4_forget M) (fun M6 => b_bind (F_X8_tell v1 v2 v3 (M6 0 10) M6) (fun t => b_two t (fun x7 M8 => some (x7, M8)))))))))
theorem t_X11_tellOfTwo {l : Launch} {E : bE} {Q : (Int × bM) → Prop} {v1 : Int} {v2 : Int} {v3 : Int} {M : bM} (h : b_wp (F_X11_tellOfTwo v1 v2 v3 M) (Q)) : V l E xX11_tellOfTwo (0, 0) 0 [(0, bR 0), (1, bI v1), (2, bI v2), (3, bI v3)] [] M (b_pI Q) := by
  unfold F_X11_tellOfTwo at h
  refine v_aload_n (f := 0) 0 rfl dX11_tellOfTwo_0 ?_
  refine v_getR (kf := 1) (kz := 1) rfl kd_0 rfl ⟨by decide, by decide⟩ rfl wf_11_19 dX11_tellOfTwo_1 ?_
  refine v_iload_n (f := 2) 2 rfl dX11_tellOfTwo_4 ?_
  refine v_cVIp (nA := 1) (As := [bI _]) (ix := 110) (cf_X8_has (b_wp_b h)) rfl kd_2 rfl rfl wc_X8_has wm_11_110 wi_X8_has ws_X8_has wn_8 ⟨by decide, by decide, by decide⟩ rfl ⟨by decide, by decide⟩ ⟨by decide, by decide⟩ (Nat.le_of_ble_eq_true rfl) dX11_tellOfTwo_5 (fun x1 h => ?_)
  refine v_if_eq (tgt := 27) dX11_tellOfTwo_8 (by decide) (fun c2 => ?_) (fun c2 => ?_)
  · replace h := b_wp_t c2 h
    refine v_bipush ⟨by decide, by decide⟩ (by decide) dX11_tellOfTwo_27 ?_
    refine v_ireturn rfl dX11_tellOfTwo_29 ⟨by decide, by decide⟩ ?_
    exact ⟨_, rfl, h⟩
  · replace h := b_wp_f c2 h
    refine v_aload_n (f := 0) 0 rfl dX11_tellOfTwo_11 ?_
    refine v_getR (kf := 1) (kz := 1) rfl kd_0 rfl ⟨by decide, by decide⟩ rfl wf_11_19 dX11_tellOfTwo_12 ?_
    refine v_iload_n (f := 3) 3 rfl dX11_tellOfTwo_15 ?_
    refine v_cVIp (nA := 1) (As := [bI _]) (ix := 110) (cf_X8_has (b_wp_b h)) rfl kd_2 rfl rfl wc_X8_has wm_11_110 wi_X8_has ws_X8_has wn_8 ⟨by decide, by decide, by decide⟩ rfl ⟨by decide, by decide⟩ ⟨by decide, by decide⟩ (Nat.le_of_ble_eq_true rfl) dX11_tellOfTwo_16 (fun x3 h => ?_)
    refine v_if_eq (tgt := 27) dX11_tellOfTwo_19 (by decide) (fun c4 => ?_) (fun c4 => ?_)
    · replace h := b_wp_t c4 h
      refine v_bipush ⟨by decide, by decide⟩ (by decide) dX11_tellOfTwo_27 ?_
      refine v_ireturn rfl dX11_tellOfTwo_29 ⟨by decide, by decide⟩ ?_
      exact ⟨_, rfl, h⟩
    · replace h := b_wp_f c4 h
      refine v_iload_n (f := 2) 2 rfl dX11_tellOfTwo_22 ?_
      refine v_iload_n (f := 3) 3 rfl dX11_tellOfTwo_23 ?_
      refine v_icmp_ne (tgt := 30) dX11_tellOfTwo_24 (by decide) (fun c5 => ?_) (fun c5 => ?_)
      · replace h := b_wp_f c5 h
        refine v_aload_n (f := 0) 0 rfl dX11_tellOfTwo_30 ?_
        refine v_getR (kf := 5) (kz := 5) rfl kd_0 rfl ⟨by decide, by decide⟩ rfl wf_11_51 dX11_tellOfTwo_31 ?_
        refine v_cVV (nA := 0) (As := []) (ix := 113) (cf_X4_forget (b_wp_b h)) rfl kd_6 rfl rfl wc_X4_forget wm_11_113 wi_X4_forget ws_X4_forget wn_4 ⟨by decide, by decide, by decide⟩ rfl ⟨by decide, by decide⟩ ⟨by decide, by decide⟩ (Nat.le_of_ble_eq_true rfl) dX11_tellOfTwo_34 (fun M6 h => ?_)
        refine v_aload_n (f := 0) 0 rfl dX11_tellOfTwo_37 ?_
        refine v_getR (kf := 1) (kz := 1) rfl kd_0 rfl ⟨by decide, by decide⟩ rfl wf_11_19 dX11_tellOfTwo_38 ?_
        refine v_iload_n (f := 1) 1 rfl dX11_tellOfTwo_41 ?_
        refine v_iload_n (f := 2) 2 rfl dX11_tellOfTwo_42 ?_
        refine v_iload_n (f := 3) 3 rfl dX11_tellOfTwo_43 ?_
        refine v_aload_n (f := 0) 0 rfl dX11_tellOfTwo_44 ?_
        refine v_getI (kf := 10) (kz := 10) rfl kd_0 rfl ⟨by decide, by decide⟩ rfl wf_11_91 dX11_tellOfTwo_45 ?_
        refine v_cVI (nA := 4) (As := [bI _, bI _, bI _, bI _]) (ix := 116) (cf_X8_tell (b_wp_b h)) rfl kd_2 rfl rfl wc_X8_tell wm_11_116 wi_X8_tell ws_X8_tell wn_8 ⟨by decide, by decide, by decide⟩ rfl ⟨by decide, by decide⟩ ⟨by decide, by decide⟩ (Nat.le_of_ble_eq_true rfl) dX11_tellOfTwo_48 (fun x7 M8 h => ?_)
        replace h := b_wp_two h
        refine v_ireturn rfl dX11_tellOfTwo_51 ⟨by decide, by decide⟩ ?_
        exact ⟨_, rfl, h⟩
      · replace h := b_wp_t c5 h
        refine v_bipush ⟨by decide, by decide⟩ (by decide) dX11_tellOfTwo_27 ?_
        refine v_ireturn rfl dX11_tellOfTwo_29 ⟨by decide, by decide⟩ ?_
        exact ⟨_, rfl, h⟩
theorem cf_X11_tellOfTwo {l : Launch} {E : bE} {M : bM} {v1 : Int} {v2 : Int} {v3 : Int} {Q : (Int × bM) → Prop} (h : b_wp (F_X11_tellOfTwo v1 v2 v3 M) Q) : b_C l E xX11_tellOfTwo yX11_tellOfTwo [bR 0, bI v1, bI v2, bI v3] M (b_pI Q) := b_met (by decide) ⟨rfl, rfl⟩ (Nat.le_of_ble_eq_true rfl) (fun _ _ => t_X11_tellOfTwo h)
abbrev xX11_same : bX := ("BurntHall", prog_1_method_7_code, 3, (Option.some Jvm.ClassFile.FieldType.int), b_rm 3 0 0, 0, "same")
abbrev yX11_same : MethodName := ⟨"BurntHall", "same", "(II)I"⟩
theorem dX11_same_0 : decode prog_1_method_7_code 0 = .ok (.aload_n 0, 1) := by decide +kernel
theorem dX11_same_1 : decode prog_1_method_7_code 1 = .ok (.iconst 1, 1) := by decide +kernel
theorem dX11_same_2 : decode prog_1_method_7_code 2 = .ok (.iload_n 1, 1) := by decide +kernel
theorem dX11_same_3 : decode prog_1_method_7_code 3 = .ok (.iload_n 2, 1) := by decide +kernel
theorem dX11_same_4 : decode prog_1_method_7_code 4 = .ok (.invokevirtual 120, 3) := by decide +kernel
theorem dX11_same_7 : decode prog_1_method_7_code 7 = .ok (.ireturn, 1) := by decide +kernel
noncomputable def F_X11_same (v1 : Int) (v2 : Int) (M : bM) : Option (Int × bM) :=
  b_bind (F_X11_tellOfTwo 1 v1 v2 M) (fun t => b_two t (fun x1 M2 => some (x1, M2)))
theorem t_X11_same {l : Launch} {E : bE} {Q : (Int × bM) → Prop} {v1 : Int} {v2 : Int} {M : bM} (h : b_wp (F_X11_same v1 v2 M) (Q)) : V l E xX11_same (0, 0) 0 [(0, bR 0), (1, bI v1), (2, bI v2)] [] M (b_pI Q) := by
  unfold F_X11_same at h
  refine v_aload_n (f := 0) 0 rfl dX11_same_0 ?_
  refine v_iconst ⟨by decide, by decide⟩ dX11_same_1 ?_
  refine v_iload_n (f := 1) 1 rfl dX11_same_2 ?_
  refine v_iload_n (f := 2) 2 rfl dX11_same_3 ?_
  refine v_cVI (nA := 3) (As := [bI _, bI _, bI _]) (ix := 120) (cf_X11_tellOfTwo (b_wp_b h)) rfl kd_0 rfl rfl wc_X11_tellOfTwo wm_11_120 wi_X11_tellOfTwo ws_X11_tellOfTwo wn_11 ⟨by decide, by decide, by decide⟩ rfl ⟨by decide, by decide⟩ ⟨by decide, by decide⟩ (Nat.le_of_ble_eq_true rfl) dX11_same_4 (fun x1 M2 h => ?_)
  replace h := b_wp_two h
  refine v_ireturn rfl dX11_same_7 ⟨by decide, by decide⟩ ?_
  exact ⟨_, rfl, h⟩
theorem cf_X11_same {l : Launch} {E : bE} {M : bM} {v1 : Int} {v2 : Int} {Q : (Int × bM) → Prop} (h : b_wp (F_X11_same v1 v2 M) Q) : b_C l E xX11_same yX11_same [bR 0, bI v1, bI v2] M (b_pI Q) := b_met (by decide) ⟨rfl, rfl⟩ (Nat.le_of_ble_eq_true rfl) (fun _ _ => t_X11_same h)
abbrev xX11_apart : bX := ("BurntHall", prog_1_method_8_code, 3, (Option.some Jvm.ClassFile.FieldType.int), b_rm 3 0 0, 0, "apart")
abbrev yX11_apart : MethodName := ⟨"BurntHall", "apart", "(II)I"⟩
theorem dX11_apart_0 : decode prog_1_method_8_code 0 = .ok (.aload_n 0, 1) := by decide +kernel
theorem dX11_apart_1 : decode prog_1_method_8_code 1 = .ok (.iconst 2, 1) := by decide +kernel
theorem dX11_apart_2 : decode prog_1_method_8_code 2 = .ok (.iload_n 1, 1) := by decide +kernel
theorem dX11_apart_3 : decode prog_1_method_8_code 3 = .ok (.iload_n 2, 1) := by decide +kernel
theorem dX11_apart_4 : decode prog_1_method_8_code 4 = .ok (.invokevirtual 120, 3) := by decide +kernel
theorem dX11_apart_7 : decode prog_1_method_8_code 7 = .ok (.ireturn, 1) := by decide +kernel
noncomputable def F_X11_apart (v1 : Int) (v2 : Int) (M : bM) : Option (Int × bM) :=
  b_bind (F_X11_tellOfTwo 2 v1 v2 M) (fun t => b_two t (fun x1 M2 => some (x1, M2)))
theorem t_X11_apart {l : Launch} {E : bE} {Q : (Int × bM) → Prop} {v1 : Int} {v2 : Int} {M : bM} (h : b_wp (F_X11_apart v1 v2 M) (Q)) : V l E xX11_apart (0, 0) 0 [(0, bR 0), (1, bI v1), (2, bI v2)] [] M (b_pI Q) := by
  unfold F_X11_apart at h
  refine v_aload_n (f := 0) 0 rfl dX11_apart_0 ?_
  refine v_iconst ⟨by decide, by decide⟩ dX11_apart_1 ?_
  refine v_iload_n (f := 1) 1 rfl dX11_apart_2 ?_
  refine v_iload_n (f := 2) 2 rfl dX11_apart_3 ?_
  refine v_cVI (nA := 3) (As := [bI _, bI _, bI _]) (ix := 120) (cf_X11_tellOfTwo (b_wp_b h)) rfl kd_0 rfl rfl wc_X11_tellOfTwo wm_11_120 wi_X11_tellOfTwo ws_X11_tellOfTwo wn_11 ⟨by decide, by decide, by decide⟩ rfl ⟨by decide, by decide⟩ ⟨by decide, by decide⟩ (Nat.le_of_ble_eq_true rfl) dX11_apart_4 (fun x1 M2 h => ?_)
  replace h := b_wp_two h
  refine v_ireturn rfl dX11_apart_7 ⟨by decide, by decide⟩ ?_
  exact ⟨_, rfl, h⟩
theorem cf_X11_apart {l : Launch} {E : bE} {M : bM} {v1 : Int} {v2 : Int} {Q : (Int × bM) → Prop} (h : b_wp (F_X11_apart v1 v2 M) Q) : b_C l E xX11_apart yX11_apart [bR 0, bI v1, bI v2] M (b_pI Q) := b_met (by decide) ⟨rfl, rfl⟩ (Nat.le_of_ble_eq_true rfl) (fun _ _ => t_X11_apart h)
abbrev xX11_child : bX := ("BurntHall", prog_1_method_9_code, 3, (Option.some Jvm.ClassFile.FieldType.int), b_rm 3 0 0, 0, "child")
abbrev yX11_child : MethodName := ⟨"BurntHall", "child", "(II)I"⟩
theorem dX11_child_0 : decode prog_1_method_9_code 0 = .ok (.aload_n 0, 1) := by decide +kernel
theorem dX11_child_1 : decode prog_1_method_9_code 1 = .ok (.iconst 3, 1) := by decide +kernel
theorem dX11_child_2 : decode prog_1_method_9_code 2 = .ok (.iload_n 1, 1) := by decide +kernel
theorem dX11_child_3 : decode prog_1_method_9_code 3 = .ok (.iload_n 2, 1) := by decide +kernel
theorem dX11_child_4 : decode prog_1_method_9_code 4 = .ok (.invokevirtual 120, 3) := by decide +kernel
theorem dX11_child_7 : decode prog_1_method_9_code 7 = .ok (.ireturn, 1) := by decide +kernel
noncomputable def F_X11_child (v1 : Int) (v2 : Int) (M : bM) : Option (Int × bM) :=
  b_bind (F_X11_tellOfTwo 3 v1 v2 M) (fun t => b_two t (fun x1 M2 => some (x1, M2)))
theorem t_X11_child {l : Launch} {E : bE} {Q : (Int × bM) → Prop} {v1 : Int} {v2 : Int} {M : bM} (h : b_wp (F_X11_child v1 v2 M) (Q)) : V l E xX11_child (0, 0) 0 [(0, bR 0), (1, bI v1), (2, bI v2)] [] M (b_pI Q) := by
  unfold F_X11_child at h
  refine v_aload_n (f := 0) 0 rfl dX11_child_0 ?_
  refine v_iconst ⟨by decide, by decide⟩ dX11_child_1 ?_
  refine v_iload_n (f := 1) 1 rfl dX11_child_2 ?_
  refine v_iload_n (f := 2) 2 rfl dX11_child_3 ?_
  refine v_cVI (nA := 3) (As := [bI _, bI _, bI _]) (ix := 120) (cf_X11_tellOfTwo (b_wp_b h)) rfl kd_0 rfl rfl wc_X11_tellOfTwo wm_11_120 wi_X11_tellOfTwo ws_X11_tellOfTwo wn_11 ⟨by decide, by decide, by decide⟩ rfl ⟨by decide, by decide⟩ ⟨by decide, by decide⟩ (Nat.le_of_ble_eq_true rfl) dX11_child_4 (fun x1 M2 h => ?_)
  replace h := b_wp_two h
  refine v_ireturn rfl dX11_child_7 ⟨by decide, by decide⟩ ?_
  exact ⟨_, rfl, h⟩
theorem cf_X11_child {l : Launch} {E : bE} {M : bM} {v1 : Int} {v2 : Int} {Q : (Int × bM) → Prop} (h : b_wp (F_X11_child v1 v2 M) Q) : b_C l E xX11_child yX11_child [bR 0, bI v1, bI v2] M (b_pI Q) := b_met (by decide) ⟨rfl, rfl⟩ (Nat.le_of_ble_eq_true rfl) (fun _ _ => t_X11_child h)
abbrev xX8_unite : bX := ("BurntHall$People", prog_10_method_6_code, 6, (Option.none : Option Jvm.ClassFile.FieldType), b_rm 2 0 0, 0, "unite")
abbrev yX8_unite : MethodName := ⟨"BurntHall$People", "unite", "(II)V"⟩
theorem dX8_unite_0 : decode prog_10_method_6_code 0 = .ok (.iload_n 1, 1) := by decide +kernel
theorem dX8_unite_1 : decode prog_10_method_6_code 1 = .ok (.iload_n 2, 1) := by decide +kernel
theorem dX8_unite_2 : decode prog_10_method_6_code 2 = .ok (.invokestatic 64, 3) := by decide +kernel
theorem dX8_unite_5 : decode prog_10_method_6_code 5 = .ok (.istore_n 3, 1) := by decide +kernel
theorem dX8_unite_6 : decode prog_10_method_6_code 6 = .ok (.iload_n 1, 1) := by decide +kernel
theorem dX8_unite_7 : decode prog_10_method_6_code 7 = .ok (.iload_n 2, 1) := by decide +kernel
theorem dX8_unite_8 : decode prog_10_method_6_code 8 = .ok (.invokestatic 70, 3) := by decide +kernel
theorem dX8_unite_11 : decode prog_10_method_6_code 11 = .ok (.istore 4, 2) := by decide +kernel
theorem dX8_unite_13 : decode prog_10_method_6_code 13 = .ok (.iload 4, 2) := by decide +kernel
theorem dX8_unite_15 : decode prog_10_method_6_code 15 = .ok (.istore 5, 2) := by decide +kernel
theorem dX8_unite_17 : decode prog_10_method_6_code 17 = .ok (.iload 5, 2) := by decide +kernel
theorem dX8_unite_19 : decode prog_10_method_6_code 19 = .ok (.aload_n 0, 1) := by decide +kernel
theorem dX8_unite_20 : decode prog_10_method_6_code 20 = .ok (.getfield 44, 3) := by decide +kernel
theorem dX8_unite_23 : decode prog_10_method_6_code 23 = .ok (.if_icmp .ge 34, 3) := by decide +kernel
theorem dX8_unite_26 : decode prog_10_method_6_code 26 = .ok (.iload_n 1, 1) := by decide +kernel
theorem dX8_unite_27 : decode prog_10_method_6_code 27 = .ok (.iload_n 2, 1) := by decide +kernel
theorem dX8_unite_28 : decode prog_10_method_6_code 28 = .ok (.if_icmp .eq 29, 3) := by decide +kernel
theorem dX8_unite_31 : decode prog_10_method_6_code 31 = .ok (.aload_n 0, 1) := by decide +kernel
theorem dX8_unite_32 : decode prog_10_method_6_code 32 = .ok (.getfield 31, 3) := by decide +kernel
theorem dX8_unite_35 : decode prog_10_method_6_code 35 = .ok (.iload 5, 2) := by decide +kernel
theorem dX8_unite_37 : decode prog_10_method_6_code 37 = .ok (.iaload, 1) := by decide +kernel
theorem dX8_unite_38 : decode prog_10_method_6_code 38 = .ok (.iload 4, 2) := by decide +kernel
theorem dX8_unite_40 : decode prog_10_method_6_code 40 = .ok (.if_icmp .ne 11, 3) := by decide +kernel
theorem dX8_unite_43 : decode prog_10_method_6_code 43 = .ok (.aload_n 0, 1) := by decide +kernel
theorem dX8_unite_44 : decode prog_10_method_6_code 44 = .ok (.getfield 31, 3) := by decide +kernel
theorem dX8_unite_47 : decode prog_10_method_6_code 47 = .ok (.iload 5, 2) := by decide +kernel
theorem dX8_unite_49 : decode prog_10_method_6_code 49 = .ok (.iload_n 3, 1) := by decide +kernel
theorem dX8_unite_50 : decode prog_10_method_6_code 50 = .ok (.iastore, 1) := by decide +kernel
theorem dX8_unite_51 : decode prog_10_method_6_code 51 = .ok (.iinc 5 1, 3) := by decide +kernel
theorem dX8_unite_54 : decode prog_10_method_6_code 54 = .ok (.goto (-37), 3) := by decide +kernel
theorem dX8_unite_57 : decode prog_10_method_6_code 57 = .ok (.return_, 1) := by decide +kernel
abbrev A_X8_unite_17 (l : Launch) (E : bE) (Q : bM → Prop) (v1 : Int) (v2 : Int) (v3 : Int) (v4 : Int) : (Int × bM) → Prop := (fun t : Int × bM => V l E xX8_unite (0, 0) 17 [(0, bR 2), (1, bI v1), (2, bI v2), (3, bI v3), (4, bI v4), (5, bI (t.1))] [] t.2 (b_pV Q))
abbrev X_X8_unite_17 (l : Launch) (E : bE) (Q : bM → Prop) (v1 : Int) (v2 : Int) (v3 : Int) (v4 : Int) : (bM) → Prop := (fun t : bM => V l E xX8_unite (0, 0) 57 [] [] t (b_pV Q))
noncomputable def F_X8_unite_s17 (v1 : Int) (v2 : Int) (v3 : Int) (v4 : Int) (v5 : Int) (M : bM) : Option ((Int × bM) ⊕ (bM)) :=
  if (M 2 0) ≤ v5 then (some (.inr (M))) else (if v1 = v2 then (some (.inr (M))) else (b_g (0 ≤ v5 ∧ v5 < 80) (if (M 81 v5) = v4 then (b_g (0 ≤ v5 ∧ v5 < 80) (b_let (b_up M 81 v5 v3) (fun M9 => b_g (b_i32 (v5 + 1)) (some (.inl ((v5 + 1), M9)))))) else (b_g (b_i32 (v5 + 1)) (some (.inl ((v5 + 1), M)))))))
theorem t_X8_unite_s17 {l : Launch} {E : bE} {Q : bM → Prop} {v1 : Int} {v2 : Int} {v3 : Int} {v4 : Int} {v5 : Int} {M : bM} (h : b_wp (F_X8_unite_s17 v1 v2 v3 v4 v5 M) (Sum.elim (A_X8_unite_17 l E Q v1 v2 v3 v4) (X_X8_unite_17 l E Q v1 v2 v3 v4))) : V l E xX8_unite (0, 0) 17 [(0, bR 2), (1, bI v1), (2, bI v2), (3, bI v3), (4, bI v4), (5, bI v5)] [] M (b_pV Q) := by
  unfold F_X8_unite_s17 at h
  refine v_iload (i := 5) 5 rfl dX8_unite_17 ?_
  refine v_aload_n (f := 0) 0 rfl dX8_unite_19 ?_
  refine v_getI (kf := 0) (kz := 0) rfl kd_2 rfl ⟨by decide, by decide⟩ rfl wf_8_44 dX8_unite_20 ?_
  refine v_icmp_ge (tgt := 57) dX8_unite_23 (by decide) (fun c3 => ?_) (fun c3 => ?_)
  · replace h := b_wp_t c3 h
    refine v_sub (ls2 := []) [] rfl ?_
    exact h
  · replace h := b_wp_f c3 h
    refine v_iload_n (f := 1) 1 rfl dX8_unite_26 ?_
    refine v_iload_n (f := 2) 2 rfl dX8_unite_27 ?_
    refine v_icmp_eq (tgt := 57) dX8_unite_28 (by decide) (fun c4 => ?_) (fun c4 => ?_)
    · replace h := b_wp_t c4 h
      refine v_sub (ls2 := []) [] rfl ?_
      exact h
    · replace h := b_wp_f c4 h
      obtain ⟨g5, h⟩ := b_wp_g h
      refine v_aload_n (f := 0) 0 rfl dX8_unite_31 ?_
      refine v_getR (kf := 10) (kz := 10) rfl kd_2 rfl ⟨by decide, by decide⟩ rfl wf_8_31 dX8_unite_32 ?_
      refine v_iload (i := 5) 5 rfl dX8_unite_35 ?_
      refine v_iaload kd_81 g5 (by decide) dX8_unite_37 ?_
      refine v_iload (i := 4) 4 rfl dX8_unite_38 ?_
      refine v_icmp_ne (tgt := 51) dX8_unite_40 (by decide) (fun c6 => ?_) (fun c6 => ?_)
      · replace h := b_wp_f c6 h
        obtain ⟨g7, h⟩ := b_wp_g h
        refine v_iincN (ls' := [(5, bI _), (0, bR _), (1, bI _), (2, bI _), (3, bI _), (4, bI _)]) 5 rfl (by decide) g7 dX8_unite_51 rfl ?_
        refine v_goto (tgt := 17) dX8_unite_54 (by decide) ?_
        refine v_sub (ls2 := [(0, bR _), (1, bI _), (2, bI _), (3, bI _), (4, bI _), (5, bI _)]) [1, 2, 3, 4, 5, 0] rfl ?_
        exact h
      · replace h := b_wp_t c6 h
        obtain ⟨g8, h⟩ := b_wp_g h
        refine v_aload_n (f := 0) 0 rfl dX8_unite_43 ?_
        refine v_getR (kf := 10) (kz := 10) rfl kd_2 rfl ⟨by decide, by decide⟩ rfl wf_8_31 dX8_unite_44 ?_
        refine v_iload (i := 5) 5 rfl dX8_unite_47 ?_
        refine v_iload_n (f := 3) 3 rfl dX8_unite_49 ?_
        refine v_iastore kd_81 g8 (by decide) dX8_unite_50 ?_
        replace h := b_wp_l h
        obtain ⟨g10, h⟩ := b_wp_g h
        refine v_iincN (ls' := [(5, bI _), (0, bR _), (1, bI _), (2, bI _), (3, bI _), (4, bI _)]) 5 rfl (by decide) g10 dX8_unite_51 rfl ?_
        refine v_goto (tgt := 17) dX8_unite_54 (by decide) ?_
        refine v_sub (ls2 := [(0, bR _), (1, bI _), (2, bI _), (3, bI _), (4, bI _), (5, bI _)]) [1, 2, 3, 4, 5, 0] rfl ?_
        exact h
theorem l_X8_unite_17 {l : Launch} {E : bE} {Q : bM → Prop} {v1 : Int} {v2 : Int} {v3 : Int} {v4 : Int} {s : Int × bM} (h : b_wp (b_loop (fun t => F_X8_unite_s17 v1 v2 v3 v4 t.1 t.2) s) (X_X8_unite_17 l E Q v1 v2 v3 v4)) : A_X8_unite_17 l E Q v1 v2 v3 v4 s := b_loop_wp (fun t h => t_X8_unite_s17 h) s h
noncomputable def F_X8_unite_b57 (M : bM) : Option (bM) :=
  some M
theorem t_X8_unite_b57 {l : Launch} {E : bE} {Q : bM → Prop} {M : bM} (h : b_wp (F_X8_unite_b57 M) (Q)) : V l E xX8_unite (0, 0) 57 [] [] M (b_pV Q) := by
  unfold F_X8_unite_b57 at h
  refine v_return rfl dX8_unite_57 ⟨by decide, by decide⟩ ?_
  exact ⟨rfl, h⟩
noncomputable def F_X8_unite (v1 : Int) (v2 : Int) (M : bM) : Option (bM) :=
  b_let ((min v1 v2)) (fun y1 => b_let ((max v1 v2)) (fun y2 => b_bind (b_loop (fun t => F_X8_unite_s17 v1 v2 y1 y2 t.1 t.2) (y2, M)) (fun t => F_X8_unite_b57 t)))
theorem t_X8_unite {l : Launch} {E : bE} {Q : bM → Prop} {v1 : Int} {v2 : Int} {M : bM} (h : b_wp (F_X8_unite v1 v2 M) (Q)) : V l E xX8_unite (0, 0) 0 [(0, bR 2), (1, bI v1), (2, bI v2)] [] M (b_pV Q) := by
  unfold F_X8_unite at h
  refine v_iload_n (f := 1) 1 rfl dX8_unite_0 ?_
  refine v_iload_n (f := 2) 2 rfl dX8_unite_1 ?_
  refine v_mmin wm_8_64 wma_min wmi wmc_min ⟨by decide, by decide⟩ ⟨by decide, by decide⟩ (Nat.le_of_ble_eq_true rfl) dX8_unite_2 ?_
  replace h := b_wp_l h
  refine v_istore_n (g := 3) (i := 3) (ls' := [(3, bI _), (0, bR _), (1, bI _), (2, bI _)]) rfl (by decide) dX8_unite_5 rfl ?_
  refine v_iload_n (f := 1) 2 rfl dX8_unite_6 ?_
  refine v_iload_n (f := 2) 3 rfl dX8_unite_7 ?_
  refine v_mmax wm_8_70 wma_max wmi wmc_max ⟨by decide, by decide⟩ ⟨by decide, by decide⟩ (Nat.le_of_ble_eq_true rfl) dX8_unite_8 ?_
  replace h := b_wp_l h
  refine v_istore (i := 4) (ls' := [(4, bI _), (3, bI _), (0, bR _), (1, bI _), (2, bI _)]) (by decide) dX8_unite_11 rfl ?_
  refine v_iload (i := 4) 0 rfl dX8_unite_13 ?_
  refine v_istore (i := 5) (ls' := [(5, bI _), (4, bI _), (3, bI _), (0, bR _), (1, bI _), (2, bI _)]) (by decide) dX8_unite_15 rfl ?_
  refine v_sub (ls2 := [(0, bR _), (1, bI _), (2, bI _), (3, bI _), (4, bI _), (5, bI _)]) [3, 4, 5, 2, 1, 0] rfl ?_
  refine l_X8_unite_17 (b_wp_m (fun t h => ?_) (b_wp_b h))
  show V l E xX8_unite (0, 0) 57 [] [] _ (b_pV Q)
  exact t_X8_unite_b57 h
theorem cf_X8_unite {l : Launch} {E : bE} {M : bM} {v1 : Int} {v2 : Int} {Q : bM → Prop} (h : b_wp (F_X8_unite v1 v2 M) Q) : b_C l E xX8_unite yX8_unite [bR 2, bI v1, bI v2] M (b_pV Q) := b_met (by decide) ⟨rfl, rfl⟩ (Nat.le_of_ble_eq_true rfl) (fun _ _ => t_X8_unite h)
abbrev xX8_learn : bX := ("BurntHall$People", prog_10_method_7_code, 4, (Option.none : Option Jvm.ClassFile.FieldType), b_rm 1 0 0, 0, "learn")
abbrev yX8_learn : MethodName := ⟨"BurntHall$People", "learn", "(I)V"⟩
theorem dX8_learn_0 : decode prog_10_method_7_code 0 = .ok (.aload_n 0, 1) := by decide +kernel
theorem dX8_learn_1 : decode prog_10_method_7_code 1 = .ok (.getfield 31, 3) := by decide +kernel
theorem dX8_learn_4 : decode prog_10_method_7_code 4 = .ok (.aload_n 0, 1) := by decide +kernel
theorem dX8_learn_5 : decode prog_10_method_7_code 5 = .ok (.getfield 18, 3) := by decide +kernel
theorem dX8_learn_8 : decode prog_10_method_7_code 8 = .ok (.iload_n 1, 1) := by decide +kernel
theorem dX8_learn_9 : decode prog_10_method_7_code 9 = .ok (.iaload, 1) := by decide +kernel
theorem dX8_learn_10 : decode prog_10_method_7_code 10 = .ok (.iaload, 1) := by decide +kernel
theorem dX8_learn_11 : decode prog_10_method_7_code 11 = .ok (.istore_n 2, 1) := by decide +kernel
theorem dX8_learn_12 : decode prog_10_method_7_code 12 = .ok (.aload_n 0, 1) := by decide +kernel
theorem dX8_learn_13 : decode prog_10_method_7_code 13 = .ok (.getfield 15, 3) := by decide +kernel
theorem dX8_learn_16 : decode prog_10_method_7_code 16 = .ok (.iload_n 1, 1) := by decide +kernel
theorem dX8_learn_17 : decode prog_10_method_7_code 17 = .ok (.iaload, 1) := by decide +kernel
theorem dX8_learn_18 : decode prog_10_method_7_code 18 = .ok (.ifCond .ne 40, 3) := by decide +kernel
theorem dX8_learn_21 : decode prog_10_method_7_code 21 = .ok (.aload_n 0, 1) := by decide +kernel
theorem dX8_learn_22 : decode prog_10_method_7_code 22 = .ok (.getfield 34, 3) := by decide +kernel
theorem dX8_learn_25 : decode prog_10_method_7_code 25 = .ok (.iload_n 2, 1) := by decide +kernel
theorem dX8_learn_26 : decode prog_10_method_7_code 26 = .ok (.iaload, 1) := by decide +kernel
theorem dX8_learn_27 : decode prog_10_method_7_code 27 = .ok (.iconst (-1), 1) := by decide +kernel
theorem dX8_learn_28 : decode prog_10_method_7_code 28 = .ok (.if_icmp .eq 18, 3) := by decide +kernel
theorem dX8_learn_31 : decode prog_10_method_7_code 31 = .ok (.aload_n 0, 1) := by decide +kernel
theorem dX8_learn_32 : decode prog_10_method_7_code 32 = .ok (.getfield 21, 3) := by decide +kernel
theorem dX8_learn_35 : decode prog_10_method_7_code 35 = .ok (.iload_n 1, 1) := by decide +kernel
theorem dX8_learn_36 : decode prog_10_method_7_code 36 = .ok (.iaload, 1) := by decide +kernel
theorem dX8_learn_37 : decode prog_10_method_7_code 37 = .ok (.aload_n 0, 1) := by decide +kernel
theorem dX8_learn_38 : decode prog_10_method_7_code 38 = .ok (.getfield 34, 3) := by decide +kernel
theorem dX8_learn_41 : decode prog_10_method_7_code 41 = .ok (.iload_n 2, 1) := by decide +kernel
theorem dX8_learn_42 : decode prog_10_method_7_code 42 = .ok (.iaload, 1) := by decide +kernel
theorem dX8_learn_43 : decode prog_10_method_7_code 43 = .ok (.if_icmp .ge 15, 3) := by decide +kernel
theorem dX8_learn_46 : decode prog_10_method_7_code 46 = .ok (.aload_n 0, 1) := by decide +kernel
theorem dX8_learn_47 : decode prog_10_method_7_code 47 = .ok (.getfield 34, 3) := by decide +kernel
theorem dX8_learn_50 : decode prog_10_method_7_code 50 = .ok (.iload_n 2, 1) := by decide +kernel
theorem dX8_learn_51 : decode prog_10_method_7_code 51 = .ok (.aload_n 0, 1) := by decide +kernel
theorem dX8_learn_52 : decode prog_10_method_7_code 52 = .ok (.getfield 21, 3) := by decide +kernel
theorem dX8_learn_55 : decode prog_10_method_7_code 55 = .ok (.iload_n 1, 1) := by decide +kernel
theorem dX8_learn_56 : decode prog_10_method_7_code 56 = .ok (.iaload, 1) := by decide +kernel
theorem dX8_learn_57 : decode prog_10_method_7_code 57 = .ok (.iastore, 1) := by decide +kernel
theorem dX8_learn_58 : decode prog_10_method_7_code 58 = .ok (.aload_n 0, 1) := by decide +kernel
theorem dX8_learn_59 : decode prog_10_method_7_code 59 = .ok (.getfield 15, 3) := by decide +kernel
theorem dX8_learn_62 : decode prog_10_method_7_code 62 = .ok (.iload_n 1, 1) := by decide +kernel
theorem dX8_learn_63 : decode prog_10_method_7_code 63 = .ok (.iaload, 1) := by decide +kernel
theorem dX8_learn_64 : decode prog_10_method_7_code 64 = .ok (.iconst 3, 1) := by decide +kernel
theorem dX8_learn_65 : decode prog_10_method_7_code 65 = .ok (.if_icmp .ne 51, 3) := by decide +kernel
theorem dX8_learn_68 : decode prog_10_method_7_code 68 = .ok (.aload_n 0, 1) := by decide +kernel
theorem dX8_learn_69 : decode prog_10_method_7_code 69 = .ok (.getfield 31, 3) := by decide +kernel
theorem dX8_learn_72 : decode prog_10_method_7_code 72 = .ok (.aload_n 0, 1) := by decide +kernel
theorem dX8_learn_73 : decode prog_10_method_7_code 73 = .ok (.getfield 21, 3) := by decide +kernel
theorem dX8_learn_76 : decode prog_10_method_7_code 76 = .ok (.iload_n 1, 1) := by decide +kernel
theorem dX8_learn_77 : decode prog_10_method_7_code 77 = .ok (.iaload, 1) := by decide +kernel
theorem dX8_learn_78 : decode prog_10_method_7_code 78 = .ok (.iaload, 1) := by decide +kernel
theorem dX8_learn_79 : decode prog_10_method_7_code 79 = .ok (.istore_n 3, 1) := by decide +kernel
theorem dX8_learn_80 : decode prog_10_method_7_code 80 = .ok (.iload_n 3, 1) := by decide +kernel
theorem dX8_learn_81 : decode prog_10_method_7_code 81 = .ok (.bipush 64, 2) := by decide +kernel
theorem dX8_learn_83 : decode prog_10_method_7_code 83 = .ok (.if_icmp .ge 18, 3) := by decide +kernel
theorem dX8_learn_86 : decode prog_10_method_7_code 86 = .ok (.aload_n 0, 1) := by decide +kernel
theorem dX8_learn_87 : decode prog_10_method_7_code 87 = .ok (.getfield 37, 3) := by decide +kernel
theorem dX8_learn_90 : decode prog_10_method_7_code 90 = .ok (.iload_n 2, 1) := by decide +kernel
theorem dX8_learn_91 : decode prog_10_method_7_code 91 = .ok (.dup2, 1) := by decide +kernel
theorem dX8_learn_92 : decode prog_10_method_7_code 92 = .ok (.laload, 1) := by decide +kernel
theorem dX8_learn_93 : decode prog_10_method_7_code 93 = .ok (.lconst 1, 1) := by decide +kernel
theorem dX8_learn_94 : decode prog_10_method_7_code 94 = .ok (.iload_n 3, 1) := by decide +kernel
theorem dX8_learn_95 : decode prog_10_method_7_code 95 = .ok (.lshl, 1) := by decide +kernel
theorem dX8_learn_96 : decode prog_10_method_7_code 96 = .ok (.lor, 1) := by decide +kernel
theorem dX8_learn_97 : decode prog_10_method_7_code 97 = .ok (.lastore, 1) := by decide +kernel
theorem dX8_learn_98 : decode prog_10_method_7_code 98 = .ok (.goto 18, 3) := by decide +kernel
theorem dX8_learn_101 : decode prog_10_method_7_code 101 = .ok (.aload_n 0, 1) := by decide +kernel
theorem dX8_learn_102 : decode prog_10_method_7_code 102 = .ok (.getfield 41, 3) := by decide +kernel
theorem dX8_learn_105 : decode prog_10_method_7_code 105 = .ok (.iload_n 2, 1) := by decide +kernel
theorem dX8_learn_106 : decode prog_10_method_7_code 106 = .ok (.dup2, 1) := by decide +kernel
theorem dX8_learn_107 : decode prog_10_method_7_code 107 = .ok (.laload, 1) := by decide +kernel
theorem dX8_learn_108 : decode prog_10_method_7_code 108 = .ok (.lconst 1, 1) := by decide +kernel
theorem dX8_learn_109 : decode prog_10_method_7_code 109 = .ok (.iload_n 3, 1) := by decide +kernel
theorem dX8_learn_110 : decode prog_10_method_7_code 110 = .ok (.bipush 64, 2) := by decide +kernel
theorem dX8_learn_112 : decode prog_10_method_7_code 112 = .ok (.isub, 1) := by decide +kernel
theorem dX8_learn_113 : decode prog_10_method_7_code 113 = .ok (.lshl, 1) := by decide +kernel
theorem dX8_learn_114 : decode prog_10_method_7_code 114 = .ok (.lor, 1) := by decide +kernel
theorem dX8_learn_115 : decode prog_10_method_7_code 115 = .ok (.lastore, 1) := by decide +kernel
theorem dX8_learn_116 : decode prog_10_method_7_code 116 = .ok (.return_, 1) := by decide +kernel
noncomputable def F_X8_learn_b58 (v1 : Int) (v2 : Int) (M : bM) : Option (bM) :=
  b_g (0 ≤ v1 ∧ v1 < 400) (if (M 77 v1) = 3 then (b_g ((0 ≤ v1 ∧ v1 < 400) ∧ (0 ≤ (M 79 v1) ∧ (M 79 v1) < 80)) (b_let ((M 81 (M 79 v1))) (fun y10 => if 64 ≤ y10 then (b_g ((0 ≤ v2 ∧ v2 < 80) ∧ (b_i32 (y10 - 64))) (b_let (b_up M 84 v2 (j_or (M 84 v2) (j_shl 1 (y10 - 64)))) (fun M14 => some M14))) else (b_g (0 ≤ v2 ∧ v2 < 80) (b_let (b_up M 83 v2 (j_or (M 83 v2) (j_shl 1 y10))) (fun M16 => some M16)))))) else (some M))
theorem t_X8_learn_b58 {l : Launch} {E : bE} {Q : bM → Prop} {v1 : Int} {v2 : Int} {M : bM} (h : b_wp (F_X8_learn_b58 v1 v2 M) (Q)) : V l E xX8_learn (0, 0) 58 [(0, bR 2), (1, bI v1), (2, bI v2)] [] M (b_pV Q) := by
  unfold F_X8_learn_b58 at h
  obtain ⟨g6, h⟩ := b_wp_g h
  refine v_aload_n (f := 0) 0 rfl dX8_learn_58 ?_
  refine v_getR (kf := 3) (kz := 3) rfl kd_2 rfl ⟨by decide, by decide⟩ rfl wf_8_15 dX8_learn_59 ?_
  refine v_iload_n (f := 1) 1 rfl dX8_learn_62 ?_
  refine v_iaload kd_77 g6 (by decide) dX8_learn_63 ?_
  refine v_iconst ⟨by decide, by decide⟩ dX8_learn_64 ?_
  refine v_icmp_ne (tgt := 116) dX8_learn_65 (by decide) (fun c7 => ?_) (fun c7 => ?_)
  · replace h := b_wp_f c7 h
    refine v_return rfl dX8_learn_116 ⟨by decide, by decide⟩ ?_
    exact ⟨rfl, h⟩
  · replace h := b_wp_t c7 h
    obtain ⟨⟨g8, g9⟩, h⟩ := b_wp_g h
    refine v_aload_n (f := 0) 0 rfl dX8_learn_68 ?_
    refine v_getR (kf := 10) (kz := 10) rfl kd_2 rfl ⟨by decide, by decide⟩ rfl wf_8_31 dX8_learn_69 ?_
    refine v_aload_n (f := 0) 0 rfl dX8_learn_72 ?_
    refine v_getR (kf := 5) (kz := 5) rfl kd_2 rfl ⟨by decide, by decide⟩ rfl wf_8_21 dX8_learn_73 ?_
    refine v_iload_n (f := 1) 1 rfl dX8_learn_76 ?_
    refine v_iaload kd_79 g8 (by decide) dX8_learn_77 ?_
    refine v_iaload kd_81 g9 (by decide) dX8_learn_78 ?_
    replace h := b_wp_l h
    refine v_istore_n (g := 3) (i := 3) (ls' := [(3, bI _), (0, bR _), (1, bI _), (2, bI _)]) rfl (by decide) dX8_learn_79 rfl ?_
    refine v_iload_n (f := 3) 0 rfl dX8_learn_80 ?_
    refine v_bipush ⟨by decide, by decide⟩ (by decide) dX8_learn_81 ?_
    refine v_icmp_ge (tgt := 101) dX8_learn_83 (by decide) (fun c11 => ?_) (fun c11 => ?_)
    · replace h := b_wp_t c11 h
      obtain ⟨⟨g12, g13⟩, h⟩ := b_wp_g h
      refine v_aload_n (f := 0) 1 rfl dX8_learn_101 ?_
      refine v_getR (kf := 13) (kz := 13) rfl kd_2 rfl ⟨by decide, by decide⟩ rfl wf_8_41 dX8_learn_102 ?_
      refine v_iload_n (f := 2) 3 rfl dX8_learn_105 ?_
      refine v_dup2 rfl rfl dX8_learn_106 ?_
      refine v_laload kd_84 g12 (by decide) dX8_learn_107 ?_
      refine v_lconst1 dX8_learn_108 ?_
      refine v_iload_n (f := 3) 0 rfl dX8_learn_109 ?_
      refine v_bipush ⟨by decide, by decide⟩ (by decide) dX8_learn_110 ?_
      refine v_isubN g13 dX8_learn_112 ?_
      refine v_lshl (v := j_shl _ _) rfl dX8_learn_113 ?_
      refine v_lor (v := j_or _ _) rfl dX8_learn_114 ?_
      refine v_lastore kd_84 g12 (by decide) dX8_learn_115 ?_
      replace h := b_wp_l h
      refine v_return rfl dX8_learn_116 ⟨by decide, by decide⟩ ?_
      exact ⟨rfl, h⟩
    · replace h := b_wp_f c11 h
      obtain ⟨g15, h⟩ := b_wp_g h
      refine v_aload_n (f := 0) 1 rfl dX8_learn_86 ?_
      refine v_getR (kf := 12) (kz := 12) rfl kd_2 rfl ⟨by decide, by decide⟩ rfl wf_8_37 dX8_learn_87 ?_
      refine v_iload_n (f := 2) 3 rfl dX8_learn_90 ?_
      refine v_dup2 rfl rfl dX8_learn_91 ?_
      refine v_laload kd_83 g15 (by decide) dX8_learn_92 ?_
      refine v_lconst1 dX8_learn_93 ?_
      refine v_iload_n (f := 3) 0 rfl dX8_learn_94 ?_
      refine v_lshl (v := j_shl _ _) rfl dX8_learn_95 ?_
      refine v_lor (v := j_or _ _) rfl dX8_learn_96 ?_
      refine v_lastore kd_83 g15 (by decide) dX8_learn_97 ?_
      replace h := b_wp_l h
      refine v_goto (tgt := 116) dX8_learn_98 (by decide) ?_
      refine v_return rfl dX8_learn_116 ⟨by decide, by decide⟩ ?_
      exact ⟨rfl, h⟩
noncomputable def F_X8_learn_b46 (v1 : Int) (v2 : Int) (M : bM) : Option (bM) :=
  b_g ((0 ≤ v1 ∧ v1 < 400) ∧ (0 ≤ v2 ∧ v2 < 80)) (b_let (b_up M 82 v2 (M 79 v1)) (fun M21 => F_X8_learn_b58 v1 v2 M21))
theorem t_X8_learn_b46 {l : Launch} {E : bE} {Q : bM → Prop} {v1 : Int} {v2 : Int} {M : bM} (h : b_wp (F_X8_learn_b46 v1 v2 M) (Q)) : V l E xX8_learn (0, 0) 46 [(0, bR 2), (1, bI v1), (2, bI v2)] [] M (b_pV Q) := by
  unfold F_X8_learn_b46 at h
  obtain ⟨⟨g19, g20⟩, h⟩ := b_wp_g h
  refine v_aload_n (f := 0) 0 rfl dX8_learn_46 ?_
  refine v_getR (kf := 11) (kz := 11) rfl kd_2 rfl ⟨by decide, by decide⟩ rfl wf_8_34 dX8_learn_47 ?_
  refine v_iload_n (f := 2) 2 rfl dX8_learn_50 ?_
  refine v_aload_n (f := 0) 0 rfl dX8_learn_51 ?_
  refine v_getR (kf := 5) (kz := 5) rfl kd_2 rfl ⟨by decide, by decide⟩ rfl wf_8_21 dX8_learn_52 ?_
  refine v_iload_n (f := 1) 1 rfl dX8_learn_55 ?_
  refine v_iaload kd_79 g19 (by decide) dX8_learn_56 ?_
  refine v_iastore kd_82 g20 (by decide) dX8_learn_57 ?_
  replace h := b_wp_l h
  exact t_X8_learn_b58 h
noncomputable def F_X8_learn (v1 : Int) (M : bM) : Option (bM) :=
  b_g ((0 ≤ v1 ∧ v1 < 400) ∧ (0 ≤ (M 78 v1) ∧ (M 78 v1) < 80)) (b_let ((M 81 (M 78 v1))) (fun y3 => b_g (0 ≤ v1 ∧ v1 < 400) (if (M 77 v1) = 0 then (b_g (0 ≤ y3 ∧ y3 < 80) (if (M 82 y3) = (-1) then (F_X8_learn_b46 v1 y3 M) else (b_g ((0 ≤ v1 ∧ v1 < 400) ∧ (0 ≤ y3 ∧ y3 < 80)) (if (M 82 y3) ≤ (M 79 v1) then (F_X8_learn_b58 v1 y3 M) else (F_X8_learn_b46 v1 y3 M))))) else (F_X8_learn_b58 v1 y3 M))))
theorem t_X8_learn {l : Launch} {E : bE} {Q : bM → Prop} {v1 : Int} {M : bM} (h : b_wp (F_X8_learn v1 M) (Q)) : V l E xX8_learn (0, 0) 0 [(0, bR 2), (1, bI v1)] [] M (b_pV Q) := by
  unfold F_X8_learn at h
  obtain ⟨⟨g1, g2⟩, h⟩ := b_wp_g h
  refine v_aload_n (f := 0) 0 rfl dX8_learn_0 ?_
  refine v_getR (kf := 10) (kz := 10) rfl kd_2 rfl ⟨by decide, by decide⟩ rfl wf_8_31 dX8_learn_1 ?_
  refine v_aload_n (f := 0) 0 rfl dX8_learn_4 ?_
  refine v_getR (kf := 4) (kz := 4) rfl kd_2 rfl ⟨by decide, by decide⟩ rfl wf_8_18 dX8_learn_5 ?_
  refine v_iload_n (f := 1) 1 rfl dX8_learn_8 ?_
  refine v_iaload kd_78 g1 (by decide) dX8_learn_9 ?_
  refine v_iaload kd_81 g2 (by decide) dX8_learn_10 ?_
  replace h := b_wp_l h
  obtain ⟨g4, h⟩ := b_wp_g h
  refine v_istore_n (g := 2) (i := 2) (ls' := [(2, bI _), (0, bR _), (1, bI _)]) rfl (by decide) dX8_learn_11 rfl ?_
  refine v_aload_n (f := 0) 1 rfl dX8_learn_12 ?_
  refine v_getR (kf := 3) (kz := 3) rfl kd_2 rfl ⟨by decide, by decide⟩ rfl wf_8_15 dX8_learn_13 ?_
  refine v_iload_n (f := 1) 2 rfl dX8_learn_16 ?_
  refine v_iaload kd_77 g4 (by decide) dX8_learn_17 ?_
  refine v_if_ne (tgt := 58) dX8_learn_18 (by decide) (fun c5 => ?_) (fun c5 => ?_)
  · replace h := b_wp_f c5 h
    refine v_sub (ls2 := [(0, bR _), (1, bI _), (2, bI _)]) [1, 2, 0] rfl ?_
    exact t_X8_learn_b58 h
  · replace h := b_wp_t c5 h
    obtain ⟨g17, h⟩ := b_wp_g h
    refine v_aload_n (f := 0) 1 rfl dX8_learn_21 ?_
    refine v_getR (kf := 11) (kz := 11) rfl kd_2 rfl ⟨by decide, by decide⟩ rfl wf_8_34 dX8_learn_22 ?_
    refine v_iload_n (f := 2) 0 rfl dX8_learn_25 ?_
    refine v_iaload kd_82 g17 (by decide) dX8_learn_26 ?_
    refine v_iconst ⟨by decide, by decide⟩ dX8_learn_27 ?_
    refine v_icmp_eq (tgt := 46) dX8_learn_28 (by decide) (fun c18 => ?_) (fun c18 => ?_)
    · replace h := b_wp_t c18 h
      refine v_sub (ls2 := [(0, bR _), (1, bI _), (2, bI _)]) [1, 2, 0] rfl ?_
      exact t_X8_learn_b46 h
    · replace h := b_wp_f c18 h
      obtain ⟨⟨g22, g23⟩, h⟩ := b_wp_g h
      refine v_aload_n (f := 0) 1 rfl dX8_learn_31 ?_
      refine v_getR (kf := 5) (kz := 5) rfl kd_2 rfl ⟨by decide, by decide⟩ rfl wf_8_21 dX8_learn_32 ?_
      refine v_iload_n (f := 1) 2 rfl dX8_learn_35 ?_
      refine v_iaload kd_79 g22 (by decide) dX8_learn_36 ?_
      refine v_aload_n (f := 0) 1 rfl dX8_learn_37 ?_
      refine v_getR (kf := 11) (kz := 11) rfl kd_2 rfl ⟨by decide, by decide⟩ rfl wf_8_34 dX8_learn_38 ?_
      refine v_iload_n (f := 2) 0 rfl dX8_learn_41 ?_
      refine v_iaload kd_82 g23 (by decide) dX8_learn_42 ?_
      refine v_icmp_ge (tgt := 58) dX8_learn_43 (by decide) (fun c24 => ?_) (fun c24 => ?_)
      · replace h := b_wp_t c24 h
        refine v_sub (ls2 := [(0, bR _), (1, bI _), (2, bI _)]) [1, 2, 0] rfl ?_
        exact t_X8_learn_b58 h
      · replace h := b_wp_f c24 h
        refine v_sub (ls2 := [(0, bR _), (1, bI _), (2, bI _)]) [1, 2, 0] rfl ?_
        exact t_X8_learn_b46 h
theorem cf_X8_learn {l : Launch} {E : bE} {M : bM} {v1 : Int} {Q : bM → Prop} (h : b_wp (F_X8_learn v1 M) Q) : b_C l E xX8_learn yX8_learn [bR 2, bI v1] M (b_pV Q) := b_met (by decide) ⟨rfl, rfl⟩ (Nat.le_of_ble_eq_true rfl) (fun _ _ => t_X8_learn h)
abbrev xX8_know : bX := ("BurntHall$People", prog_10_method_5_code, 3, (Option.none : Option Jvm.ClassFile.FieldType), b_rm 3 0 0, 0, "know")
abbrev yX8_know : MethodName := ⟨"BurntHall$People", "know", "(I)V"⟩
theorem dX8_know_0 : decode prog_10_method_5_code 0 = .ok (.iload_n 1, 1) := by decide +kernel
theorem dX8_know_1 : decode prog_10_method_5_code 1 = .ok (.aload_n 0, 1) := by decide +kernel
theorem dX8_know_2 : decode prog_10_method_5_code 2 = .ok (.getfield 27, 3) := by decide +kernel
theorem dX8_know_5 : decode prog_10_method_5_code 5 = .ok (.if_icmp .ne 26, 3) := by decide +kernel
theorem dX8_know_8 : decode prog_10_method_5_code 8 = .ok (.aload_n 0, 1) := by decide +kernel
theorem dX8_know_9 : decode prog_10_method_5_code 9 = .ok (.getfield 44, 3) := by decide +kernel
theorem dX8_know_12 : decode prog_10_method_5_code 12 = .ok (.aload_n 0, 1) := by decide +kernel
theorem dX8_know_13 : decode prog_10_method_5_code 13 = .ok (.getfield 50, 3) := by decide +kernel
theorem dX8_know_16 : decode prog_10_method_5_code 16 = .ok (.if_icmp .ne 15, 3) := by decide +kernel
theorem dX8_know_19 : decode prog_10_method_5_code 19 = .ok (.aload_n 0, 1) := by decide +kernel
theorem dX8_know_20 : decode prog_10_method_5_code 20 = .ok (.getfield 47, 3) := by decide +kernel
theorem dX8_know_23 : decode prog_10_method_5_code 23 = .ok (.aload_n 0, 1) := by decide +kernel
theorem dX8_know_24 : decode prog_10_method_5_code 24 = .ok (.getfield 53, 3) := by decide +kernel
theorem dX8_know_27 : decode prog_10_method_5_code 27 = .ok (.if_icmp .ne 4, 3) := by decide +kernel
theorem dX8_know_30 : decode prog_10_method_5_code 30 = .ok (.return_, 1) := by decide +kernel
theorem dX8_know_31 : decode prog_10_method_5_code 31 = .ok (.aload_n 0, 1) := by decide +kernel
theorem dX8_know_32 : decode prog_10_method_5_code 32 = .ok (.iload_n 1, 1) := by decide +kernel
theorem dX8_know_33 : decode prog_10_method_5_code 33 = .ok (.putfield 27, 3) := by decide +kernel
theorem dX8_know_36 : decode prog_10_method_5_code 36 = .ok (.aload_n 0, 1) := by decide +kernel
theorem dX8_know_37 : decode prog_10_method_5_code 37 = .ok (.aload_n 0, 1) := by decide +kernel
theorem dX8_know_38 : decode prog_10_method_5_code 38 = .ok (.getfield 44, 3) := by decide +kernel
theorem dX8_know_41 : decode prog_10_method_5_code 41 = .ok (.putfield 50, 3) := by decide +kernel
theorem dX8_know_44 : decode prog_10_method_5_code 44 = .ok (.aload_n 0, 1) := by decide +kernel
theorem dX8_know_45 : decode prog_10_method_5_code 45 = .ok (.aload_n 0, 1) := by decide +kernel
theorem dX8_know_46 : decode prog_10_method_5_code 46 = .ok (.getfield 47, 3) := by decide +kernel
theorem dX8_know_49 : decode prog_10_method_5_code 49 = .ok (.putfield 53, 3) := by decide +kernel
theorem dX8_know_52 : decode prog_10_method_5_code 52 = .ok (.iconst 0, 1) := by decide +kernel
theorem dX8_know_53 : decode prog_10_method_5_code 53 = .ok (.istore_n 2, 1) := by decide +kernel
theorem dX8_know_54 : decode prog_10_method_5_code 54 = .ok (.iload_n 2, 1) := by decide +kernel
theorem dX8_know_55 : decode prog_10_method_5_code 55 = .ok (.aload_n 0, 1) := by decide +kernel
theorem dX8_know_56 : decode prog_10_method_5_code 56 = .ok (.getfield 44, 3) := by decide +kernel
theorem dX8_know_59 : decode prog_10_method_5_code 59 = .ok (.if_icmp .ge 37, 3) := by decide +kernel
theorem dX8_know_62 : decode prog_10_method_5_code 62 = .ok (.aload_n 0, 1) := by decide +kernel
theorem dX8_know_63 : decode prog_10_method_5_code 63 = .ok (.getfield 31, 3) := by decide +kernel
theorem dX8_know_66 : decode prog_10_method_5_code 66 = .ok (.iload_n 2, 1) := by decide +kernel
theorem dX8_know_67 : decode prog_10_method_5_code 67 = .ok (.iload_n 2, 1) := by decide +kernel
theorem dX8_know_68 : decode prog_10_method_5_code 68 = .ok (.iastore, 1) := by decide +kernel
theorem dX8_know_69 : decode prog_10_method_5_code 69 = .ok (.aload_n 0, 1) := by decide +kernel
theorem dX8_know_70 : decode prog_10_method_5_code 70 = .ok (.getfield 34, 3) := by decide +kernel
theorem dX8_know_73 : decode prog_10_method_5_code 73 = .ok (.iload_n 2, 1) := by decide +kernel
theorem dX8_know_74 : decode prog_10_method_5_code 74 = .ok (.iconst (-1), 1) := by decide +kernel
theorem dX8_know_75 : decode prog_10_method_5_code 75 = .ok (.iastore, 1) := by decide +kernel
theorem dX8_know_76 : decode prog_10_method_5_code 76 = .ok (.aload_n 0, 1) := by decide +kernel
theorem dX8_know_77 : decode prog_10_method_5_code 77 = .ok (.getfield 37, 3) := by decide +kernel
theorem dX8_know_80 : decode prog_10_method_5_code 80 = .ok (.iload_n 2, 1) := by decide +kernel
theorem dX8_know_81 : decode prog_10_method_5_code 81 = .ok (.lconst 0, 1) := by decide +kernel
theorem dX8_know_82 : decode prog_10_method_5_code 82 = .ok (.lastore, 1) := by decide +kernel
theorem dX8_know_83 : decode prog_10_method_5_code 83 = .ok (.aload_n 0, 1) := by decide +kernel
theorem dX8_know_84 : decode prog_10_method_5_code 84 = .ok (.getfield 41, 3) := by decide +kernel
theorem dX8_know_87 : decode prog_10_method_5_code 87 = .ok (.iload_n 2, 1) := by decide +kernel
theorem dX8_know_88 : decode prog_10_method_5_code 88 = .ok (.lconst 0, 1) := by decide +kernel
theorem dX8_know_89 : decode prog_10_method_5_code 89 = .ok (.lastore, 1) := by decide +kernel
theorem dX8_know_90 : decode prog_10_method_5_code 90 = .ok (.iinc 2 1, 3) := by decide +kernel
theorem dX8_know_93 : decode prog_10_method_5_code 93 = .ok (.goto (-39), 3) := by decide +kernel
theorem dX8_know_96 : decode prog_10_method_5_code 96 = .ok (.iconst 0, 1) := by decide +kernel
theorem dX8_know_97 : decode prog_10_method_5_code 97 = .ok (.istore_n 2, 1) := by decide +kernel
theorem dX8_know_98 : decode prog_10_method_5_code 98 = .ok (.iload_n 2, 1) := by decide +kernel
theorem dX8_know_99 : decode prog_10_method_5_code 99 = .ok (.aload_n 0, 1) := by decide +kernel
theorem dX8_know_100 : decode prog_10_method_5_code 100 = .ok (.getfield 47, 3) := by decide +kernel
theorem dX8_know_103 : decode prog_10_method_5_code 103 = .ok (.if_icmp .ge 55, 3) := by decide +kernel
theorem dX8_know_106 : decode prog_10_method_5_code 106 = .ok (.aload_n 0, 1) := by decide +kernel
theorem dX8_know_107 : decode prog_10_method_5_code 107 = .ok (.getfield 15, 3) := by decide +kernel
theorem dX8_know_110 : decode prog_10_method_5_code 110 = .ok (.iload_n 2, 1) := by decide +kernel
theorem dX8_know_111 : decode prog_10_method_5_code 111 = .ok (.iaload, 1) := by decide +kernel
theorem dX8_know_112 : decode prog_10_method_5_code 112 = .ok (.iconst 1, 1) := by decide +kernel
theorem dX8_know_113 : decode prog_10_method_5_code 113 = .ok (.if_icmp .ne 39, 3) := by decide +kernel
theorem dX8_know_116 : decode prog_10_method_5_code 116 = .ok (.aload_n 0, 1) := by decide +kernel
theorem dX8_know_117 : decode prog_10_method_5_code 117 = .ok (.getfield 24, 3) := by decide +kernel
theorem dX8_know_120 : decode prog_10_method_5_code 120 = .ok (.iload_n 2, 1) := by decide +kernel
theorem dX8_know_121 : decode prog_10_method_5_code 121 = .ok (.iaload, 1) := by decide +kernel
theorem dX8_know_122 : decode prog_10_method_5_code 122 = .ok (.iload_n 1, 1) := by decide +kernel
theorem dX8_know_123 : decode prog_10_method_5_code 123 = .ok (.if_icmp .gt 29, 3) := by decide +kernel
theorem dX8_know_126 : decode prog_10_method_5_code 126 = .ok (.aload_n 0, 1) := by decide +kernel
theorem dX8_know_127 : decode prog_10_method_5_code 127 = .ok (.aload_n 0, 1) := by decide +kernel
theorem dX8_know_128 : decode prog_10_method_5_code 128 = .ok (.getfield 31, 3) := by decide +kernel
theorem dX8_know_131 : decode prog_10_method_5_code 131 = .ok (.aload_n 0, 1) := by decide +kernel
theorem dX8_know_132 : decode prog_10_method_5_code 132 = .ok (.getfield 18, 3) := by decide +kernel
theorem dX8_know_135 : decode prog_10_method_5_code 135 = .ok (.iload_n 2, 1) := by decide +kernel
theorem dX8_know_136 : decode prog_10_method_5_code 136 = .ok (.iaload, 1) := by decide +kernel
theorem dX8_know_137 : decode prog_10_method_5_code 137 = .ok (.iaload, 1) := by decide +kernel
theorem dX8_know_138 : decode prog_10_method_5_code 138 = .ok (.aload_n 0, 1) := by decide +kernel
theorem dX8_know_139 : decode prog_10_method_5_code 139 = .ok (.getfield 31, 3) := by decide +kernel
theorem dX8_know_142 : decode prog_10_method_5_code 142 = .ok (.aload_n 0, 1) := by decide +kernel
theorem dX8_know_143 : decode prog_10_method_5_code 143 = .ok (.getfield 21, 3) := by decide +kernel
theorem dX8_know_146 : decode prog_10_method_5_code 146 = .ok (.iload_n 2, 1) := by decide +kernel
theorem dX8_know_147 : decode prog_10_method_5_code 147 = .ok (.iaload, 1) := by decide +kernel
theorem dX8_know_148 : decode prog_10_method_5_code 148 = .ok (.iaload, 1) := by decide +kernel
theorem dX8_know_149 : decode prog_10_method_5_code 149 = .ok (.invokevirtual 56, 3) := by decide +kernel
theorem dX8_know_152 : decode prog_10_method_5_code 152 = .ok (.iinc 2 1, 3) := by decide +kernel
theorem dX8_know_155 : decode prog_10_method_5_code 155 = .ok (.goto (-57), 3) := by decide +kernel
theorem dX8_know_158 : decode prog_10_method_5_code 158 = .ok (.iconst 0, 1) := by decide +kernel
theorem dX8_know_159 : decode prog_10_method_5_code 159 = .ok (.istore_n 2, 1) := by decide +kernel
theorem dX8_know_160 : decode prog_10_method_5_code 160 = .ok (.iload_n 2, 1) := by decide +kernel
theorem dX8_know_161 : decode prog_10_method_5_code 161 = .ok (.aload_n 0, 1) := by decide +kernel
theorem dX8_know_162 : decode prog_10_method_5_code 162 = .ok (.getfield 47, 3) := by decide +kernel
theorem dX8_know_165 : decode prog_10_method_5_code 165 = .ok (.if_icmp .ge 24, 3) := by decide +kernel
theorem dX8_know_168 : decode prog_10_method_5_code 168 = .ok (.aload_n 0, 1) := by decide +kernel
theorem dX8_know_169 : decode prog_10_method_5_code 169 = .ok (.getfield 24, 3) := by decide +kernel
theorem dX8_know_172 : decode prog_10_method_5_code 172 = .ok (.iload_n 2, 1) := by decide +kernel
theorem dX8_know_173 : decode prog_10_method_5_code 173 = .ok (.iaload, 1) := by decide +kernel
theorem dX8_know_174 : decode prog_10_method_5_code 174 = .ok (.iload_n 1, 1) := by decide +kernel
theorem dX8_know_175 : decode prog_10_method_5_code 175 = .ok (.if_icmp .gt 8, 3) := by decide +kernel
theorem dX8_know_178 : decode prog_10_method_5_code 178 = .ok (.aload_n 0, 1) := by decide +kernel
theorem dX8_know_179 : decode prog_10_method_5_code 179 = .ok (.iload_n 2, 1) := by decide +kernel
theorem dX8_know_180 : decode prog_10_method_5_code 180 = .ok (.invokevirtual 60, 3) := by decide +kernel
theorem dX8_know_183 : decode prog_10_method_5_code 183 = .ok (.iinc 2 1, 3) := by decide +kernel
theorem dX8_know_186 : decode prog_10_method_5_code 186 = .ok (.goto (-26), 3) := by decide +kernel
theorem dX8_know_189 : decode prog_10_method_5_code 189 = .ok (.return_, 1) := by decide +kernel
abbrev A_X8_know_54 (l : Launch) (E : bE) (Q : bM → Prop) (v1 : Int) : (Int × bM) → Prop := (fun t : Int × bM => V l E xX8_know (0, 0) 54 [(0, bR 2), (1, bI v1), (2, bI (t.1))] [] t.2 (b_pV Q))
abbrev X_X8_know_54 (l : Launch) (E : bE) (Q : bM → Prop) (v1 : Int) : (bM) → Prop := (fun t : bM => V l E xX8_know (0, 0) 96 [(0, bR 2), (1, bI v1)] [] t (b_pV Q))
noncomputable def F_X8_know_s54 (v1 : Int) (v2 : Int) (M : bM) : Option ((Int × bM) ⊕ (bM)) :=
  if (M 2 0) ≤ v2 then (some (.inr (M))) else (b_g (0 ≤ v2 ∧ v2 < 80) (b_let (b_up M 81 v2 v2) (fun M7 => b_g (0 ≤ v2 ∧ v2 < 80) (b_let (b_up M7 82 v2 (-1)) (fun M9 => b_g (0 ≤ v2 ∧ v2 < 80) (b_let (b_up M9 83 v2 0) (fun M11 => b_g (0 ≤ v2 ∧ v2 < 80) (b_let (b_up M11 84 v2 0) (fun M13 => b_g (b_i32 (v2 + 1)) (some (.inl ((v2 + 1), M13))))))))))))
theorem t_X8_know_s54 {l : Launch} {E : bE} {Q : bM → Prop} {v1 : Int} {v2 : Int} {M : bM} (h : b_wp (F_X8_know_s54 v1 v2 M) (Sum.elim (A_X8_know_54 l E Q v1) (X_X8_know_54 l E Q v1))) : V l E xX8_know (0, 0) 54 [(0, bR 2), (1, bI v1), (2, bI v2)] [] M (b_pV Q) := by
  unfold F_X8_know_s54 at h
  refine v_iload_n (f := 2) 2 rfl dX8_know_54 ?_
  refine v_aload_n (f := 0) 0 rfl dX8_know_55 ?_
  refine v_getI (kf := 0) (kz := 0) rfl kd_2 rfl ⟨by decide, by decide⟩ rfl wf_8_44 dX8_know_56 ?_
  refine v_icmp_ge (tgt := 96) dX8_know_59 (by decide) (fun c5 => ?_) (fun c5 => ?_)
  · replace h := b_wp_t c5 h
    refine v_sub (ls2 := [(0, bR _), (1, bI _)]) [0, 1] rfl ?_
    exact h
  · replace h := b_wp_f c5 h
    obtain ⟨g6, h⟩ := b_wp_g h
    refine v_aload_n (f := 0) 0 rfl dX8_know_62 ?_
    refine v_getR (kf := 10) (kz := 10) rfl kd_2 rfl ⟨by decide, by decide⟩ rfl wf_8_31 dX8_know_63 ?_
    refine v_iload_n (f := 2) 2 rfl dX8_know_66 ?_
    refine v_iload_n (f := 2) 2 rfl dX8_know_67 ?_
    refine v_iastore kd_81 g6 (by decide) dX8_know_68 ?_
    replace h := b_wp_l h
    obtain ⟨g8, h⟩ := b_wp_g h
    refine v_aload_n (f := 0) 0 rfl dX8_know_69 ?_
    refine v_getR (kf := 11) (kz := 11) rfl kd_2 rfl ⟨by decide, by decide⟩ rfl wf_8_34 dX8_know_70 ?_
    refine v_iload_n (f := 2) 2 rfl dX8_know_73 ?_
    refine v_iconst ⟨by decide, by decide⟩ dX8_know_74 ?_
    refine v_iastore kd_82 g8 (by decide) dX8_know_75 ?_
    replace h := b_wp_l h
    obtain ⟨g10, h⟩ := b_wp_g h
    refine v_aload_n (f := 0) 0 rfl dX8_know_76 ?_
    refine v_getR (kf := 12) (kz := 12) rfl kd_2 rfl ⟨by decide, by decide⟩ rfl wf_8_37 dX8_know_77 ?_
    refine v_iload_n (f := 2) 2 rfl dX8_know_80 ?_
    refine v_lconst0 dX8_know_81 ?_
    refine v_lastore kd_83 g10 (by decide) dX8_know_82 ?_
    replace h := b_wp_l h
    obtain ⟨g12, h⟩ := b_wp_g h
    refine v_aload_n (f := 0) 0 rfl dX8_know_83 ?_
    refine v_getR (kf := 13) (kz := 13) rfl kd_2 rfl ⟨by decide, by decide⟩ rfl wf_8_41 dX8_know_84 ?_
    refine v_iload_n (f := 2) 2 rfl dX8_know_87 ?_
    refine v_lconst0 dX8_know_88 ?_
    refine v_lastore kd_84 g12 (by decide) dX8_know_89 ?_
    replace h := b_wp_l h
    obtain ⟨g14, h⟩ := b_wp_g h
    refine v_iincN (ls' := [(2, bI _), (0, bR _), (1, bI _)]) 2 rfl (by decide) g14 dX8_know_90 rfl ?_
    refine v_goto (tgt := 54) dX8_know_93 (by decide) ?_
    refine v_sub (ls2 := [(0, bR _), (1, bI _), (2, bI _)]) [1, 2, 0] rfl ?_
    exact h
theorem l_X8_know_54 {l : Launch} {E : bE} {Q : bM → Prop} {v1 : Int} {s : Int × bM} (h : b_wp (b_loop (fun t => F_X8_know_s54 v1 t.1 t.2) s) (X_X8_know_54 l E Q v1)) : A_X8_know_54 l E Q v1 s := b_loop_wp (fun t h => t_X8_know_s54 h) s h
abbrev A_X8_know_98 (l : Launch) (E : bE) (Q : bM → Prop) (v1 : Int) : (Int × bM) → Prop := (fun t : Int × bM => V l E xX8_know (0, 0) 98 [(0, bR 2), (1, bI v1), (2, bI (t.1))] [] t.2 (b_pV Q))
abbrev X_X8_know_98 (l : Launch) (E : bE) (Q : bM → Prop) (v1 : Int) : (bM) → Prop := (fun t : bM => V l E xX8_know (0, 0) 158 [(0, bR 2), (1, bI v1)] [] t (b_pV Q))
noncomputable def F_X8_know_s98 (v1 : Int) (v2 : Int) (M : bM) : Option ((Int × bM) ⊕ (bM)) :=
  if (M 2 1) ≤ v2 then (some (.inr (M))) else (b_g (0 ≤ v2 ∧ v2 < 400) (if (M 77 v2) = 1 then (b_g (0 ≤ v2 ∧ v2 < 400) (if v1 < (M 80 v2) then (b_g (b_i32 (v2 + 1)) (some (.inl ((v2 + 1), M)))) else (b_g ((0 ≤ v2 ∧ v2 < 400) ∧ (0 ≤ (M 78 v2) ∧ (M 78 v2) < 80) ∧ (0 ≤ (M 79 v2) ∧ (M 79 v2) < 80)) (b_bind (F_X8_unite (M 81 (M 78 v2)) (M 81 (M 79 v2)) M) (fun M25 => b_g (b_i32 (v2 + 1)) (some (.inl ((v2 + 1), M25)))))))) else (b_g (b_i32 (v2 + 1)) (some (.inl ((v2 + 1), M))))))
theorem t_X8_know_s98 {l : Launch} {E : bE} {Q : bM → Prop} {v1 : Int} {v2 : Int} {M : bM} (h : b_wp (F_X8_know_s98 v1 v2 M) (Sum.elim (A_X8_know_98 l E Q v1) (X_X8_know_98 l E Q v1))) : V l E xX8_know (0, 0) 98 [(0, bR 2), (1, bI v1), (2, bI v2)] [] M (b_pV Q) := by
  unfold F_X8_know_s98 at h
  refine v_iload_n (f := 2) 2 rfl dX8_know_98 ?_
  refine v_aload_n (f := 0) 0 rfl dX8_know_99 ?_
  refine v_getI (kf := 1) (kz := 1) rfl kd_2 rfl ⟨by decide, by decide⟩ rfl wf_8_47 dX8_know_100 ?_
  refine v_icmp_ge (tgt := 158) dX8_know_103 (by decide) (fun c15 => ?_) (fun c15 => ?_)
  · replace h := b_wp_t c15 h
    refine v_sub (ls2 := [(0, bR _), (1, bI _)]) [0, 1] rfl ?_
    exact h
  · replace h := b_wp_f c15 h
    obtain ⟨g16, h⟩ := b_wp_g h
    refine v_aload_n (f := 0) 0 rfl dX8_know_106 ?_
    refine v_getR (kf := 3) (kz := 3) rfl kd_2 rfl ⟨by decide, by decide⟩ rfl wf_8_15 dX8_know_107 ?_
    refine v_iload_n (f := 2) 2 rfl dX8_know_110 ?_
    refine v_iaload kd_77 g16 (by decide) dX8_know_111 ?_
    refine v_iconst ⟨by decide, by decide⟩ dX8_know_112 ?_
    refine v_icmp_ne (tgt := 152) dX8_know_113 (by decide) (fun c17 => ?_) (fun c17 => ?_)
    · replace h := b_wp_f c17 h
      obtain ⟨g18, h⟩ := b_wp_g h
      refine v_iincN (ls' := [(2, bI _), (0, bR _), (1, bI _)]) 2 rfl (by decide) g18 dX8_know_152 rfl ?_
      refine v_goto (tgt := 98) dX8_know_155 (by decide) ?_
      refine v_sub (ls2 := [(0, bR _), (1, bI _), (2, bI _)]) [1, 2, 0] rfl ?_
      exact h
    · replace h := b_wp_t c17 h
      obtain ⟨g19, h⟩ := b_wp_g h
      refine v_aload_n (f := 0) 0 rfl dX8_know_116 ?_
      refine v_getR (kf := 6) (kz := 6) rfl kd_2 rfl ⟨by decide, by decide⟩ rfl wf_8_24 dX8_know_117 ?_
      refine v_iload_n (f := 2) 2 rfl dX8_know_120 ?_
      refine v_iaload kd_80 g19 (by decide) dX8_know_121 ?_
      refine v_iload_n (f := 1) 1 rfl dX8_know_122 ?_
      refine v_icmp_gt (tgt := 152) dX8_know_123 (by decide) (fun c20 => ?_) (fun c20 => ?_)
      · replace h := b_wp_t c20 h
        obtain ⟨g21, h⟩ := b_wp_g h
        refine v_iincN (ls' := [(2, bI _), (0, bR _), (1, bI _)]) 2 rfl (by decide) g21 dX8_know_152 rfl ?_
        refine v_goto (tgt := 98) dX8_know_155 (by decide) ?_
        refine v_sub (ls2 := [(0, bR _), (1, bI _), (2, bI _)]) [1, 2, 0] rfl ?_
        exact h
      · replace h := b_wp_f c20 h
        obtain ⟨⟨g22, g23, g24⟩, h⟩ := b_wp_g h
        refine v_aload_n (f := 0) 0 rfl dX8_know_126 ?_
        refine v_aload_n (f := 0) 0 rfl dX8_know_127 ?_
        refine v_getR (kf := 10) (kz := 10) rfl kd_2 rfl ⟨by decide, by decide⟩ rfl wf_8_31 dX8_know_128 ?_
        refine v_aload_n (f := 0) 0 rfl dX8_know_131 ?_
        refine v_getR (kf := 4) (kz := 4) rfl kd_2 rfl ⟨by decide, by decide⟩ rfl wf_8_18 dX8_know_132 ?_
        refine v_iload_n (f := 2) 2 rfl dX8_know_135 ?_
        refine v_iaload kd_78 g22 (by decide) dX8_know_136 ?_
        refine v_iaload kd_81 g23 (by decide) dX8_know_137 ?_
        refine v_aload_n (f := 0) 0 rfl dX8_know_138 ?_
        refine v_getR (kf := 10) (kz := 10) rfl kd_2 rfl ⟨by decide, by decide⟩ rfl wf_8_31 dX8_know_139 ?_
        refine v_aload_n (f := 0) 0 rfl dX8_know_142 ?_
        refine v_getR (kf := 5) (kz := 5) rfl kd_2 rfl ⟨by decide, by decide⟩ rfl wf_8_21 dX8_know_143 ?_
        refine v_iload_n (f := 2) 2 rfl dX8_know_146 ?_
        refine v_iaload kd_79 g22 (by decide) dX8_know_147 ?_
        refine v_iaload kd_81 g24 (by decide) dX8_know_148 ?_
        refine v_cVV (nA := 2) (As := [bI _, bI _]) (ix := 56) (cf_X8_unite (b_wp_b h)) rfl kd_2 rfl rfl wc_X8_unite wm_8_56 wi_X8_unite ws_X8_unite wn_8 ⟨by decide, by decide, by decide⟩ rfl ⟨by decide, by decide⟩ ⟨by decide, by decide⟩ (Nat.le_of_ble_eq_true rfl) dX8_know_149 (fun M25 h => ?_)
        obtain ⟨g26, h⟩ := b_wp_g h
        refine v_iincN (ls' := [(2, bI _), (0, bR _), (1, bI _)]) 2 rfl (by decide) g26 dX8_know_152 rfl ?_
        refine v_goto (tgt := 98) dX8_know_155 (by decide) ?_
        refine v_sub (ls2 := [(0, bR _), (1, bI _), (2, bI _)]) [1, 2, 0] rfl ?_
        exact h
theorem l_X8_know_98 {l : Launch} {E : bE} {Q : bM → Prop} {v1 : Int} {s : Int × bM} (h : b_wp (b_loop (fun t => F_X8_know_s98 v1 t.1 t.2) s) (X_X8_know_98 l E Q v1)) : A_X8_know_98 l E Q v1 s := b_loop_wp (fun t h => t_X8_know_s98 h) s h
abbrev A_X8_know_160 (l : Launch) (E : bE) (Q : bM → Prop) (v1 : Int) : (Int × bM) → Prop := (fun t : Int × bM => V l E xX8_know (0, 0) 160 [(0, bR 2), (1, bI v1), (2, bI (t.1))] [] t.2 (b_pV Q))
abbrev X_X8_know_160 (l : Launch) (E : bE) (Q : bM → Prop) (v1 : Int) : (bM) → Prop := (fun t : bM => V l E xX8_know (0, 0) 189 [] [] t (b_pV Q))
noncomputable def F_X8_know_s160 (v1 : Int) (v2 : Int) (M : bM) : Option ((Int × bM) ⊕ (bM)) :=
  if (M 2 1) ≤ v2 then (some (.inr (M))) else (b_g (0 ≤ v2 ∧ v2 < 400) (if v1 < (M 80 v2) then (b_g (b_i32 (v2 + 1)) (some (.inl ((v2 + 1), M)))) else (b_bind (F_X8_learn v2 M) (fun M31 => b_g (b_i32 (v2 + 1)) (some (.inl ((v2 + 1), M31)))))))
theorem t_X8_know_s160 {l : Launch} {E : bE} {Q : bM → Prop} {v1 : Int} {v2 : Int} {M : bM} (h : b_wp (F_X8_know_s160 v1 v2 M) (Sum.elim (A_X8_know_160 l E Q v1) (X_X8_know_160 l E Q v1))) : V l E xX8_know (0, 0) 160 [(0, bR 2), (1, bI v1), (2, bI v2)] [] M (b_pV Q) := by
  unfold F_X8_know_s160 at h
  refine v_iload_n (f := 2) 2 rfl dX8_know_160 ?_
  refine v_aload_n (f := 0) 0 rfl dX8_know_161 ?_
  refine v_getI (kf := 1) (kz := 1) rfl kd_2 rfl ⟨by decide, by decide⟩ rfl wf_8_47 dX8_know_162 ?_
  refine v_icmp_ge (tgt := 189) dX8_know_165 (by decide) (fun c27 => ?_) (fun c27 => ?_)
  · replace h := b_wp_t c27 h
    refine v_sub (ls2 := []) [] rfl ?_
    exact h
  · replace h := b_wp_f c27 h
    obtain ⟨g28, h⟩ := b_wp_g h
    refine v_aload_n (f := 0) 0 rfl dX8_know_168 ?_
    refine v_getR (kf := 6) (kz := 6) rfl kd_2 rfl ⟨by decide, by decide⟩ rfl wf_8_24 dX8_know_169 ?_
    refine v_iload_n (f := 2) 2 rfl dX8_know_172 ?_
    refine v_iaload kd_80 g28 (by decide) dX8_know_173 ?_
    refine v_iload_n (f := 1) 1 rfl dX8_know_174 ?_
    refine v_icmp_gt (tgt := 183) dX8_know_175 (by decide) (fun c29 => ?_) (fun c29 => ?_)
    · replace h := b_wp_t c29 h
      obtain ⟨g30, h⟩ := b_wp_g h
      refine v_iincN (ls' := [(2, bI _), (0, bR _), (1, bI _)]) 2 rfl (by decide) g30 dX8_know_183 rfl ?_
      refine v_goto (tgt := 160) dX8_know_186 (by decide) ?_
      refine v_sub (ls2 := [(0, bR _), (1, bI _), (2, bI _)]) [1, 2, 0] rfl ?_
      exact h
    · replace h := b_wp_f c29 h
      refine v_aload_n (f := 0) 0 rfl dX8_know_178 ?_
      refine v_iload_n (f := 2) 2 rfl dX8_know_179 ?_
      refine v_cVV (nA := 1) (As := [bI _]) (ix := 60) (cf_X8_learn (b_wp_b h)) rfl kd_2 rfl rfl wc_X8_learn wm_8_60 wi_X8_learn ws_X8_learn wn_8 ⟨by decide, by decide, by decide⟩ rfl ⟨by decide, by decide⟩ ⟨by decide, by decide⟩ (Nat.le_of_ble_eq_true rfl) dX8_know_180 (fun M31 h => ?_)
      obtain ⟨g32, h⟩ := b_wp_g h
      refine v_iincN (ls' := [(2, bI _), (0, bR _), (1, bI _)]) 2 rfl (by decide) g32 dX8_know_183 rfl ?_
      refine v_goto (tgt := 160) dX8_know_186 (by decide) ?_
      refine v_sub (ls2 := [(0, bR _), (1, bI _), (2, bI _)]) [1, 2, 0] rfl ?_
      exact h
theorem l_X8_know_160 {l : Launch} {E : bE} {Q : bM → Prop} {v1 : Int} {s : Int × bM} (h : b_wp (b_loop (fun t => F_X8_know_s160 v1 t.1 t.2) s) (X_X8_know_160 l E Q v1)) : A_X8_know_160 l E Q v1 s := b_loop_wp (fun t h => t_X8_know_s160 h) s h
noncomputable def F_X8_know_b189 (M : bM) : Option (bM) :=
  some M
theorem t_X8_know_b189 {l : Launch} {E : bE} {Q : bM → Prop} {M : bM} (h : b_wp (F_X8_know_b189 M) (Q)) : V l E xX8_know (0, 0) 189 [] [] M (b_pV Q) := by
  unfold F_X8_know_b189 at h
  refine v_return rfl dX8_know_189 ⟨by decide, by decide⟩ ?_
  exact ⟨rfl, h⟩
noncomputable def F_X8_know_b158 (v1 : Int) (M : bM) : Option (bM) :=
  b_bind (b_loop (fun t => F_X8_know_s160 v1 t.1 t.2) (0, M)) (fun t => F_X8_know_b189 t)
theorem t_X8_know_b158 {l : Launch} {E : bE} {Q : bM → Prop} {v1 : Int} {M : bM} (h : b_wp (F_X8_know_b158 v1 M) (Q)) : V l E xX8_know (0, 0) 158 [(0, bR 2), (1, bI v1)] [] M (b_pV Q) := by
  unfold F_X8_know_b158 at h
  refine v_iconst ⟨by decide, by decide⟩ dX8_know_158 ?_
  refine v_istore_n (g := 2) (i := 2) (ls' := [(2, bI _), (0, bR _), (1, bI _)]) rfl (by decide) dX8_know_159 rfl ?_
  refine v_sub (ls2 := [(0, bR _), (1, bI _), (2, bI _)]) [1, 2, 0] rfl ?_
  refine l_X8_know_160 (b_wp_m (fun t h => ?_) (b_wp_b h))
  show V l E xX8_know (0, 0) 189 [] [] _ (b_pV Q)
  exact t_X8_know_b189 h
noncomputable def F_X8_know_b96 (v1 : Int) (M : bM) : Option (bM) :=
  b_bind (b_loop (fun t => F_X8_know_s98 v1 t.1 t.2) (0, M)) (fun t => F_X8_know_b158 v1 t)
theorem t_X8_know_b96 {l : Launch} {E : bE} {Q : bM → Prop} {v1 : Int} {M : bM} (h : b_wp (F_X8_know_b96 v1 M) (Q)) : V l E xX8_know (0, 0) 96 [(0, bR 2), (1, bI v1)] [] M (b_pV Q) := by
  unfold F_X8_know_b96 at h
  refine v_iconst ⟨by decide, by decide⟩ dX8_know_96 ?_
  refine v_istore_n (g := 2) (i := 2) (ls' := [(2, bI _), (0, bR _), (1, bI _)]) rfl (by decide) dX8_know_97 rfl ?_
  refine v_sub (ls2 := [(0, bR _), (1, bI _), (2, bI _)]) [1, 2, 0] rfl ?_
  refine l_X8_know_98 (b_wp_m (fun t h => ?_) (b_wp_b h))
  show V l E xX8_know (0, 0) 158 [(0, bR 2), (1, bI _)] [] _ (b_pV Q)
  exact t_X8_know_b158 h
noncomputable def F_X8_know_b31 (v1 : Int) (M : bM) : Option (bM) :=
  b_let (b_up M 2 7 v1) (fun M2 => b_let (b_up M2 2 8 (M2 2 0)) (fun M3 => b_let (b_up M3 2 9 (M3 2 1)) (fun M4 => b_bind (b_loop (fun t => F_X8_know_s54 v1 t.1 t.2) (0, M4)) (fun t => F_X8_know_b96 v1 t))))
theorem t_X8_know_b31 {l : Launch} {E : bE} {Q : bM → Prop} {v1 : Int} {M : bM} (h : b_wp (F_X8_know_b31 v1 M) (Q)) : V l E xX8_know (0, 0) 31 [(0, bR 2), (1, bI v1)] [] M (b_pV Q) := by
  unfold F_X8_know_b31 at h
  refine v_aload_n (f := 0) 0 rfl dX8_know_31 ?_
  refine v_iload_n (f := 1) 1 rfl dX8_know_32 ?_
  refine v_putI (kf := 7) (kz := 7) rfl kd_2 rfl ⟨by decide, by decide⟩ rfl wf_8_27 rfl rfl dX8_know_33 ?_
  replace h := b_wp_l h
  refine v_aload_n (f := 0) 0 rfl dX8_know_36 ?_
  refine v_aload_n (f := 0) 0 rfl dX8_know_37 ?_
  refine v_getI (kf := 0) (kz := 0) rfl kd_2 rfl ⟨by decide, by decide⟩ rfl wf_8_44 dX8_know_38 ?_
  refine v_putI (kf := 8) (kz := 8) rfl kd_2 rfl ⟨by decide, by decide⟩ rfl wf_8_50 rfl rfl dX8_know_41 ?_
  replace h := b_wp_l h
  refine v_aload_n (f := 0) 0 rfl dX8_know_44 ?_
  refine v_aload_n (f := 0) 0 rfl dX8_know_45 ?_
  refine v_getI (kf := 1) (kz := 1) rfl kd_2 rfl ⟨by decide, by decide⟩ rfl wf_8_47 dX8_know_46 ?_
  refine v_putI (kf := 9) (kz := 9) rfl kd_2 rfl ⟨by decide, by decide⟩ rfl wf_8_53 rfl rfl dX8_know_49 ?_
  replace h := b_wp_l h
  refine v_iconst ⟨by decide, by decide⟩ dX8_know_52 ?_
  refine v_istore_n (g := 2) (i := 2) (ls' := [(2, bI _), (0, bR _), (1, bI _)]) rfl (by decide) dX8_know_53 rfl ?_
  refine v_sub (ls2 := [(0, bR _), (1, bI _), (2, bI _)]) [1, 2, 0] rfl ?_
  refine l_X8_know_54 (b_wp_m (fun t h => ?_) (b_wp_b h))
  show V l E xX8_know (0, 0) 96 [(0, bR 2), (1, bI _)] [] _ (b_pV Q)
  exact t_X8_know_b96 h
noncomputable def F_X8_know (v1 : Int) (M : bM) : Option (bM) :=
  if v1 = (M 2 7) then (if (M 2 0) = (M 2 8) then (if (M 2 1) = (M 2 9) then (some M) else (F_X8_know_b31 v1 M)) else (F_X8_know_b31 v1 M)) else (F_X8_know_b31 v1 M)
theorem t_X8_know {l : Launch} {E : bE} {Q : bM → Prop} {v1 : Int} {M : bM} (h : b_wp (F_X8_know v1 M) (Q)) : V l E xX8_know (0, 0) 0 [(0, bR 2), (1, bI v1)] [] M (b_pV Q) := by
  unfold F_X8_know at h
  refine v_iload_n (f := 1) 1 rfl dX8_know_0 ?_
  refine v_aload_n (f := 0) 0 rfl dX8_know_1 ?_
  refine v_getI (kf := 7) (kz := 7) rfl kd_2 rfl ⟨by decide, by decide⟩ rfl wf_8_27 dX8_know_2 ?_
  refine v_icmp_ne (tgt := 31) dX8_know_5 (by decide) (fun c1 => ?_) (fun c1 => ?_)
  · replace h := b_wp_f c1 h
    exact t_X8_know_b31 h
  · replace h := b_wp_t c1 h
    refine v_aload_n (f := 0) 0 rfl dX8_know_8 ?_
    refine v_getI (kf := 0) (kz := 0) rfl kd_2 rfl ⟨by decide, by decide⟩ rfl wf_8_44 dX8_know_9 ?_
    refine v_aload_n (f := 0) 0 rfl dX8_know_12 ?_
    refine v_getI (kf := 8) (kz := 8) rfl kd_2 rfl ⟨by decide, by decide⟩ rfl wf_8_50 dX8_know_13 ?_
    refine v_icmp_ne (tgt := 31) dX8_know_16 (by decide) (fun c33 => ?_) (fun c33 => ?_)
    · replace h := b_wp_f c33 h
      exact t_X8_know_b31 h
    · replace h := b_wp_t c33 h
      refine v_aload_n (f := 0) 0 rfl dX8_know_19 ?_
      refine v_getI (kf := 1) (kz := 1) rfl kd_2 rfl ⟨by decide, by decide⟩ rfl wf_8_47 dX8_know_20 ?_
      refine v_aload_n (f := 0) 0 rfl dX8_know_23 ?_
      refine v_getI (kf := 9) (kz := 9) rfl kd_2 rfl ⟨by decide, by decide⟩ rfl wf_8_53 dX8_know_24 ?_
      refine v_icmp_ne (tgt := 31) dX8_know_27 (by decide) (fun c34 => ?_) (fun c34 => ?_)
      · replace h := b_wp_f c34 h
        exact t_X8_know_b31 h
      · replace h := b_wp_t c34 h
        refine v_return rfl dX8_know_30 ⟨by decide, by decide⟩ ?_
        exact ⟨rfl, h⟩
theorem cf_X8_know {l : Launch} {E : bE} {M : bM} {v1 : Int} {Q : bM → Prop} (h : b_wp (F_X8_know v1 M) Q) : b_C l E xX8_know yX8_know [bR 2, bI v1] M (b_pV Q) := b_met (by decide) ⟨rfl, rfl⟩ (Nat.le_of_ble_eq_true rfl) (fun _ _ => t_X8_know h)
abbrev xX8_deathOf : bX := ("BurntHall$People", prog_10_method_9_code, 2, (Option.some Jvm.ClassFile.FieldType.int), b_rm 2 0 0, 0, "deathOf")
abbrev yX8_deathOf : MethodName := ⟨"BurntHall$People", "deathOf", "(I)I"⟩
theorem dX8_deathOf_0 : decode prog_10_method_9_code 0 = .ok (.aload_n 0, 1) := by decide +kernel
theorem dX8_deathOf_1 : decode prog_10_method_9_code 1 = .ok (.iload_n 1, 1) := by decide +kernel
theorem dX8_deathOf_2 : decode prog_10_method_9_code 2 = .ok (.invokevirtual 73, 3) := by decide +kernel
theorem dX8_deathOf_5 : decode prog_10_method_9_code 5 = .ok (.ifCond .eq 17, 3) := by decide +kernel
theorem dX8_deathOf_8 : decode prog_10_method_9_code 8 = .ok (.aload_n 0, 1) := by decide +kernel
theorem dX8_deathOf_9 : decode prog_10_method_9_code 9 = .ok (.getfield 34, 3) := by decide +kernel
theorem dX8_deathOf_12 : decode prog_10_method_9_code 12 = .ok (.aload_n 0, 1) := by decide +kernel
theorem dX8_deathOf_13 : decode prog_10_method_9_code 13 = .ok (.getfield 31, 3) := by decide +kernel
theorem dX8_deathOf_16 : decode prog_10_method_9_code 16 = .ok (.iload_n 1, 1) := by decide +kernel
theorem dX8_deathOf_17 : decode prog_10_method_9_code 17 = .ok (.iaload, 1) := by decide +kernel
theorem dX8_deathOf_18 : decode prog_10_method_9_code 18 = .ok (.iaload, 1) := by decide +kernel
theorem dX8_deathOf_19 : decode prog_10_method_9_code 19 = .ok (.goto 4, 3) := by decide +kernel
theorem dX8_deathOf_22 : decode prog_10_method_9_code 22 = .ok (.iconst (-1), 1) := by decide +kernel
theorem dX8_deathOf_23 : decode prog_10_method_9_code 23 = .ok (.ireturn, 1) := by decide +kernel
noncomputable def F_X8_deathOf (v1 : Int) (M : bM) : Option (Int) :=
  b_bind (F_X8_has v1 M) (fun x1 => if x1 = 0 then (some (-1)) else (b_g ((0 ≤ v1 ∧ v1 < 80) ∧ (0 ≤ (M 81 v1) ∧ (M 81 v1) < 80)) (some (M 82 (M 81 v1)))))
theorem t_X8_deathOf {l : Launch} {E : bE} {Q : Int → Prop} {v1 : Int} {M : bM} (h : b_wp (F_X8_deathOf v1 M) (Q)) : V l E xX8_deathOf (0, 0) 0 [(0, bR 2), (1, bI v1)] [] M (b_pIp M Q) := by
  unfold F_X8_deathOf at h
  refine v_aload_n (f := 0) 0 rfl dX8_deathOf_0 ?_
  refine v_iload_n (f := 1) 1 rfl dX8_deathOf_1 ?_
  refine v_cVIp (nA := 1) (As := [bI _]) (ix := 73) (cf_X8_has (b_wp_b h)) rfl kd_2 rfl rfl wc_X8_has wm_8_73 wi_X8_has ws_X8_has wn_8 ⟨by decide, by decide, by decide⟩ rfl ⟨by decide, by decide⟩ ⟨by decide, by decide⟩ (Nat.le_of_ble_eq_true rfl) dX8_deathOf_2 (fun x1 h => ?_)
  refine v_if_eq (tgt := 22) dX8_deathOf_5 (by decide) (fun c2 => ?_) (fun c2 => ?_)
  · replace h := b_wp_t c2 h
    refine v_iconst ⟨by decide, by decide⟩ dX8_deathOf_22 ?_
    refine v_ireturn rfl dX8_deathOf_23 ⟨by decide, by decide⟩ ?_
    exact ⟨_, rfl, rfl, h⟩
  · replace h := b_wp_f c2 h
    obtain ⟨⟨g3, g4⟩, h⟩ := b_wp_g h
    refine v_aload_n (f := 0) 0 rfl dX8_deathOf_8 ?_
    refine v_getR (kf := 11) (kz := 11) rfl kd_2 rfl ⟨by decide, by decide⟩ rfl wf_8_34 dX8_deathOf_9 ?_
    refine v_aload_n (f := 0) 0 rfl dX8_deathOf_12 ?_
    refine v_getR (kf := 10) (kz := 10) rfl kd_2 rfl ⟨by decide, by decide⟩ rfl wf_8_31 dX8_deathOf_13 ?_
    refine v_iload_n (f := 1) 1 rfl dX8_deathOf_16 ?_
    refine v_iaload kd_81 g3 (by decide) dX8_deathOf_17 ?_
    refine v_iaload kd_82 g4 (by decide) dX8_deathOf_18 ?_
    refine v_goto (tgt := 23) dX8_deathOf_19 (by decide) ?_
    refine v_ireturn rfl dX8_deathOf_23 ⟨by decide, by decide⟩ ?_
    exact ⟨_, rfl, rfl, h⟩
theorem cf_X8_deathOf {l : Launch} {E : bE} {M : bM} {v1 : Int} {Q : Int → Prop} (h : b_wp (F_X8_deathOf v1 M) Q) : b_C l E xX8_deathOf yX8_deathOf [bR 2, bI v1] M (b_pIp M Q) := b_met (by decide) ⟨rfl, rfl⟩ (Nat.le_of_ble_eq_true rfl) (fun _ _ => t_X8_deathOf h)
abbrev xX11_deadOn : bX := ("BurntHall", prog_1_method_11_code, 3, (Option.some Jvm.ClassFile.FieldType.int), b_rm 4 0 0, 0, "deadOn")
abbrev yX11_deadOn : MethodName := ⟨"BurntHall", "deadOn", "(II)I"⟩
theorem dX11_deadOn_0 : decode prog_1_method_11_code 0 = .ok (.aload_n 0, 1) := by decide +kernel
theorem dX11_deadOn_1 : decode prog_1_method_11_code 1 = .ok (.getfield 19, 3) := by decide +kernel
theorem dX11_deadOn_4 : decode prog_1_method_11_code 4 = .ok (.iload_n 1, 1) := by decide +kernel
theorem dX11_deadOn_5 : decode prog_1_method_11_code 5 = .ok (.invokevirtual 110, 3) := by decide +kernel
theorem dX11_deadOn_8 : decode prog_1_method_11_code 8 = .ok (.ifCond .eq 10, 3) := by decide +kernel
theorem dX11_deadOn_11 : decode prog_1_method_11_code 11 = .ok (.iload_n 2, 1) := by decide +kernel
theorem dX11_deadOn_12 : decode prog_1_method_11_code 12 = .ok (.invokestatic 102, 3) := by decide +kernel
theorem dX11_deadOn_15 : decode prog_1_method_11_code 15 = .ok (.ifCond .ne 6, 3) := by decide +kernel
theorem dX11_deadOn_18 : decode prog_1_method_11_code 18 = .ok (.bipush (-2), 2) := by decide +kernel
theorem dX11_deadOn_20 : decode prog_1_method_11_code 20 = .ok (.ireturn, 1) := by decide +kernel
theorem dX11_deadOn_21 : decode prog_1_method_11_code 21 = .ok (.aload_n 0, 1) := by decide +kernel
theorem dX11_deadOn_22 : decode prog_1_method_11_code 22 = .ok (.getfield 19, 3) := by decide +kernel
theorem dX11_deadOn_25 : decode prog_1_method_11_code 25 = .ok (.iload_n 2, 1) := by decide +kernel
theorem dX11_deadOn_26 : decode prog_1_method_11_code 26 = .ok (.invokevirtual 124, 3) := by decide +kernel
theorem dX11_deadOn_29 : decode prog_1_method_11_code 29 = .ok (.aload_n 0, 1) := by decide +kernel
theorem dX11_deadOn_30 : decode prog_1_method_11_code 30 = .ok (.getfield 19, 3) := by decide +kernel
theorem dX11_deadOn_33 : decode prog_1_method_11_code 33 = .ok (.iload_n 1, 1) := by decide +kernel
theorem dX11_deadOn_34 : decode prog_1_method_11_code 34 = .ok (.invokevirtual 127, 3) := by decide +kernel
theorem dX11_deadOn_37 : decode prog_1_method_11_code 37 = .ok (.ireturn, 1) := by decide +kernel
noncomputable def F_X11_deadOn (v1 : Int) (v2 : Int) (M : bM) : Option (Int × bM) :=
  b_bind (F_X8_has v1 M) (fun x1 => if x1 = 0 then (some ((-2), M)) else (b_bind (F_X11_isDay v2 M) (fun x3 => if x3 = 0 then (some ((-2), M)) else (b_bind (F_X8_know v2 M) (fun M5 => b_bind (F_X8_deathOf v1 M5) (fun x6 => some (x6, M5)))))))
theorem t_X11_deadOn {l : Launch} {E : bE} {Q : (Int × bM) → Prop} {v1 : Int} {v2 : Int} {M : bM} (h : b_wp (F_X11_deadOn v1 v2 M) (Q)) : V l E xX11_deadOn (0, 0) 0 [(0, bR 0), (1, bI v1), (2, bI v2)] [] M (b_pI Q) := by
  unfold F_X11_deadOn at h
  refine v_aload_n (f := 0) 0 rfl dX11_deadOn_0 ?_
  refine v_getR (kf := 1) (kz := 1) rfl kd_0 rfl ⟨by decide, by decide⟩ rfl wf_11_19 dX11_deadOn_1 ?_
  refine v_iload_n (f := 1) 1 rfl dX11_deadOn_4 ?_
  refine v_cVIp (nA := 1) (As := [bI _]) (ix := 110) (cf_X8_has (b_wp_b h)) rfl kd_2 rfl rfl wc_X8_has wm_11_110 wi_X8_has ws_X8_has wn_8 ⟨by decide, by decide, by decide⟩ rfl ⟨by decide, by decide⟩ ⟨by decide, by decide⟩ (Nat.le_of_ble_eq_true rfl) dX11_deadOn_5 (fun x1 h => ?_)
  refine v_if_eq (tgt := 18) dX11_deadOn_8 (by decide) (fun c2 => ?_) (fun c2 => ?_)
  · replace h := b_wp_t c2 h
    refine v_bipush ⟨by decide, by decide⟩ (by decide) dX11_deadOn_18 ?_
    refine v_ireturn rfl dX11_deadOn_20 ⟨by decide, by decide⟩ ?_
    exact ⟨_, rfl, h⟩
  · replace h := b_wp_f c2 h
    refine v_iload_n (f := 2) 2 rfl dX11_deadOn_11 ?_
    refine v_cSIp (nA := 1) (As := [bI _]) (ix := 102) (cf_X11_isDay (b_wp_b h)) rfl wc_X11_isDay wm_11_102 wi_X11_isDay wn_11 ⟨by decide, by decide, by decide⟩ rfl ⟨by decide, by decide⟩ ⟨by decide, by decide⟩ (Nat.le_of_ble_eq_true rfl) dX11_deadOn_12 (fun x3 h => ?_)
    refine v_if_ne (tgt := 21) dX11_deadOn_15 (by decide) (fun c4 => ?_) (fun c4 => ?_)
    · replace h := b_wp_f c4 h
      refine v_aload_n (f := 0) 0 rfl dX11_deadOn_21 ?_
      refine v_getR (kf := 1) (kz := 1) rfl kd_0 rfl ⟨by decide, by decide⟩ rfl wf_11_19 dX11_deadOn_22 ?_
      refine v_iload_n (f := 2) 2 rfl dX11_deadOn_25 ?_
      refine v_cVV (nA := 1) (As := [bI _]) (ix := 124) (cf_X8_know (b_wp_b h)) rfl kd_2 rfl rfl wc_X8_know wm_11_124 wi_X8_know ws_X8_know wn_8 ⟨by decide, by decide, by decide⟩ rfl ⟨by decide, by decide⟩ ⟨by decide, by decide⟩ (Nat.le_of_ble_eq_true rfl) dX11_deadOn_26 (fun M5 h => ?_)
      refine v_aload_n (f := 0) 0 rfl dX11_deadOn_29 ?_
      refine v_getR (kf := 1) (kz := 1) rfl kd_0 rfl ⟨by decide, by decide⟩ rfl wf_11_19 dX11_deadOn_30 ?_
      refine v_iload_n (f := 1) 1 rfl dX11_deadOn_33 ?_
      refine v_cVIp (nA := 1) (As := [bI _]) (ix := 127) (cf_X8_deathOf (b_wp_b h)) rfl kd_2 rfl rfl wc_X8_deathOf wm_11_127 wi_X8_deathOf ws_X8_deathOf wn_8 ⟨by decide, by decide, by decide⟩ rfl ⟨by decide, by decide⟩ ⟨by decide, by decide⟩ (Nat.le_of_ble_eq_true rfl) dX11_deadOn_34 (fun x6 h => ?_)
      refine v_ireturn rfl dX11_deadOn_37 ⟨by decide, by decide⟩ ?_
      exact ⟨_, rfl, h⟩
    · replace h := b_wp_t c4 h
      refine v_bipush ⟨by decide, by decide⟩ (by decide) dX11_deadOn_18 ?_
      refine v_ireturn rfl dX11_deadOn_20 ⟨by decide, by decide⟩ ?_
      exact ⟨_, rfl, h⟩
theorem cf_X11_deadOn {l : Launch} {E : bE} {M : bM} {v1 : Int} {v2 : Int} {Q : (Int × bM) → Prop} (h : b_wp (F_X11_deadOn v1 v2 M) Q) : b_C l E xX11_deadOn yX11_deadOn [bR 0, bI v1, bI v2] M (b_pI Q) := b_met (by decide) ⟨rfl, rfl⟩ (Nat.le_of_ble_eq_true rfl) (fun _ _ => t_X11_deadOn h)
abbrev xX8_groupOf : bX := ("BurntHall$People", prog_10_method_8_code, 2, (Option.some Jvm.ClassFile.FieldType.int), b_rm 2 0 0, 0, "groupOf")
abbrev yX8_groupOf : MethodName := ⟨"BurntHall$People", "groupOf", "(I)I"⟩
theorem dX8_groupOf_0 : decode prog_10_method_8_code 0 = .ok (.aload_n 0, 1) := by decide +kernel
theorem dX8_groupOf_1 : decode prog_10_method_8_code 1 = .ok (.iload_n 1, 1) := by decide +kernel
theorem dX8_groupOf_2 : decode prog_10_method_8_code 2 = .ok (.invokevirtual 73, 3) := by decide +kernel
theorem dX8_groupOf_5 : decode prog_10_method_8_code 5 = .ok (.ifCond .eq 12, 3) := by decide +kernel
theorem dX8_groupOf_8 : decode prog_10_method_8_code 8 = .ok (.aload_n 0, 1) := by decide +kernel
theorem dX8_groupOf_9 : decode prog_10_method_8_code 9 = .ok (.getfield 31, 3) := by decide +kernel
theorem dX8_groupOf_12 : decode prog_10_method_8_code 12 = .ok (.iload_n 1, 1) := by decide +kernel
theorem dX8_groupOf_13 : decode prog_10_method_8_code 13 = .ok (.iaload, 1) := by decide +kernel
theorem dX8_groupOf_14 : decode prog_10_method_8_code 14 = .ok (.goto 4, 3) := by decide +kernel
theorem dX8_groupOf_17 : decode prog_10_method_8_code 17 = .ok (.iconst (-1), 1) := by decide +kernel
theorem dX8_groupOf_18 : decode prog_10_method_8_code 18 = .ok (.ireturn, 1) := by decide +kernel
noncomputable def F_X8_groupOf (v1 : Int) (M : bM) : Option (Int) :=
  b_bind (F_X8_has v1 M) (fun x1 => if x1 = 0 then (some (-1)) else (b_g (0 ≤ v1 ∧ v1 < 80) (some (M 81 v1))))
theorem t_X8_groupOf {l : Launch} {E : bE} {Q : Int → Prop} {v1 : Int} {M : bM} (h : b_wp (F_X8_groupOf v1 M) (Q)) : V l E xX8_groupOf (0, 0) 0 [(0, bR 2), (1, bI v1)] [] M (b_pIp M Q) := by
  unfold F_X8_groupOf at h
  refine v_aload_n (f := 0) 0 rfl dX8_groupOf_0 ?_
  refine v_iload_n (f := 1) 1 rfl dX8_groupOf_1 ?_
  refine v_cVIp (nA := 1) (As := [bI _]) (ix := 73) (cf_X8_has (b_wp_b h)) rfl kd_2 rfl rfl wc_X8_has wm_8_73 wi_X8_has ws_X8_has wn_8 ⟨by decide, by decide, by decide⟩ rfl ⟨by decide, by decide⟩ ⟨by decide, by decide⟩ (Nat.le_of_ble_eq_true rfl) dX8_groupOf_2 (fun x1 h => ?_)
  refine v_if_eq (tgt := 17) dX8_groupOf_5 (by decide) (fun c2 => ?_) (fun c2 => ?_)
  · replace h := b_wp_t c2 h
    refine v_iconst ⟨by decide, by decide⟩ dX8_groupOf_17 ?_
    refine v_ireturn rfl dX8_groupOf_18 ⟨by decide, by decide⟩ ?_
    exact ⟨_, rfl, rfl, h⟩
  · replace h := b_wp_f c2 h
    obtain ⟨g3, h⟩ := b_wp_g h
    refine v_aload_n (f := 0) 0 rfl dX8_groupOf_8 ?_
    refine v_getR (kf := 10) (kz := 10) rfl kd_2 rfl ⟨by decide, by decide⟩ rfl wf_8_31 dX8_groupOf_9 ?_
    refine v_iload_n (f := 1) 1 rfl dX8_groupOf_12 ?_
    refine v_iaload kd_81 g3 (by decide) dX8_groupOf_13 ?_
    refine v_goto (tgt := 18) dX8_groupOf_14 (by decide) ?_
    refine v_ireturn rfl dX8_groupOf_18 ⟨by decide, by decide⟩ ?_
    exact ⟨_, rfl, rfl, h⟩
theorem cf_X8_groupOf {l : Launch} {E : bE} {M : bM} {v1 : Int} {Q : Int → Prop} (h : b_wp (F_X8_groupOf v1 M) Q) : b_C l E xX8_groupOf yX8_groupOf [bR 2, bI v1] M (b_pIp M Q) := b_met (by decide) ⟨rfl, rfl⟩ (Nat.le_of_ble_eq_true rfl) (fun _ _ => t_X8_groupOf h)
abbrev xX11_one : bX := ("BurntHall", prog_1_method_12_code, 4, (Option.some Jvm.ClassFile.FieldType.int), b_rm 4 0 0, 0, "one")
abbrev yX11_one : MethodName := ⟨"BurntHall", "one", "(III)I"⟩
theorem dX11_one_0 : decode prog_1_method_12_code 0 = .ok (.aload_n 0, 1) := by decide +kernel
theorem dX11_one_1 : decode prog_1_method_12_code 1 = .ok (.getfield 19, 3) := by decide +kernel
theorem dX11_one_4 : decode prog_1_method_12_code 4 = .ok (.iload_n 1, 1) := by decide +kernel
theorem dX11_one_5 : decode prog_1_method_12_code 5 = .ok (.invokevirtual 110, 3) := by decide +kernel
theorem dX11_one_8 : decode prog_1_method_12_code 8 = .ok (.ifCond .eq 21, 3) := by decide +kernel
theorem dX11_one_11 : decode prog_1_method_12_code 11 = .ok (.aload_n 0, 1) := by decide +kernel
theorem dX11_one_12 : decode prog_1_method_12_code 12 = .ok (.getfield 19, 3) := by decide +kernel
theorem dX11_one_15 : decode prog_1_method_12_code 15 = .ok (.iload_n 2, 1) := by decide +kernel
theorem dX11_one_16 : decode prog_1_method_12_code 16 = .ok (.invokevirtual 110, 3) := by decide +kernel
theorem dX11_one_19 : decode prog_1_method_12_code 19 = .ok (.ifCond .eq 10, 3) := by decide +kernel
theorem dX11_one_22 : decode prog_1_method_12_code 22 = .ok (.iload_n 3, 1) := by decide +kernel
theorem dX11_one_23 : decode prog_1_method_12_code 23 = .ok (.invokestatic 102, 3) := by decide +kernel
theorem dX11_one_26 : decode prog_1_method_12_code 26 = .ok (.ifCond .ne 6, 3) := by decide +kernel
theorem dX11_one_29 : decode prog_1_method_12_code 29 = .ok (.bipush (-2), 2) := by decide +kernel
theorem dX11_one_31 : decode prog_1_method_12_code 31 = .ok (.ireturn, 1) := by decide +kernel
theorem dX11_one_32 : decode prog_1_method_12_code 32 = .ok (.aload_n 0, 1) := by decide +kernel
theorem dX11_one_33 : decode prog_1_method_12_code 33 = .ok (.getfield 19, 3) := by decide +kernel
theorem dX11_one_36 : decode prog_1_method_12_code 36 = .ok (.iload_n 3, 1) := by decide +kernel
theorem dX11_one_37 : decode prog_1_method_12_code 37 = .ok (.invokevirtual 124, 3) := by decide +kernel
theorem dX11_one_40 : decode prog_1_method_12_code 40 = .ok (.aload_n 0, 1) := by decide +kernel
theorem dX11_one_41 : decode prog_1_method_12_code 41 = .ok (.getfield 19, 3) := by decide +kernel
theorem dX11_one_44 : decode prog_1_method_12_code 44 = .ok (.iload_n 1, 1) := by decide +kernel
theorem dX11_one_45 : decode prog_1_method_12_code 45 = .ok (.invokevirtual 130, 3) := by decide +kernel
theorem dX11_one_48 : decode prog_1_method_12_code 48 = .ok (.aload_n 0, 1) := by decide +kernel
theorem dX11_one_49 : decode prog_1_method_12_code 49 = .ok (.getfield 19, 3) := by decide +kernel
theorem dX11_one_52 : decode prog_1_method_12_code 52 = .ok (.iload_n 2, 1) := by decide +kernel
theorem dX11_one_53 : decode prog_1_method_12_code 53 = .ok (.invokevirtual 130, 3) := by decide +kernel
theorem dX11_one_56 : decode prog_1_method_12_code 56 = .ok (.if_icmp .ne 7, 3) := by decide +kernel
theorem dX11_one_59 : decode prog_1_method_12_code 59 = .ok (.iconst 1, 1) := by decide +kernel
theorem dX11_one_60 : decode prog_1_method_12_code 60 = .ok (.goto 4, 3) := by decide +kernel
theorem dX11_one_63 : decode prog_1_method_12_code 63 = .ok (.iconst 0, 1) := by decide +kernel
theorem dX11_one_64 : decode prog_1_method_12_code 64 = .ok (.ireturn, 1) := by decide +kernel
noncomputable def F_X11_one (v1 : Int) (v2 : Int) (v3 : Int) (M : bM) : Option (Int × bM) :=
  b_bind (F_X8_has v1 M) (fun x1 => if x1 = 0 then (some ((-2), M)) else (b_bind (F_X8_has v2 M) (fun x3 => if x3 = 0 then (some ((-2), M)) else (b_bind (F_X11_isDay v3 M) (fun x5 => if x5 = 0 then (some ((-2), M)) else (b_bind (F_X8_know v3 M) (fun M7 => b_bind (F_X8_groupOf v1 M7) (fun x8 => b_bind (F_X8_groupOf v2 M7) (fun x9 => if x8 = x9 then (some (1, M7)) else (some (0, M7)))))))))))
theorem t_X11_one {l : Launch} {E : bE} {Q : (Int × bM) → Prop} {v1 : Int} {v2 : Int} {v3 : Int} {M : bM} (h : b_wp (F_X11_one v1 v2 v3 M) (Q)) : V l E xX11_one (0, 0) 0 [(0, bR 0), (1, bI v1), (2, bI v2), (3, bI v3)] [] M (b_pI Q) := by
  unfold F_X11_one at h
  refine v_aload_n (f := 0) 0 rfl dX11_one_0 ?_
  refine v_getR (kf := 1) (kz := 1) rfl kd_0 rfl ⟨by decide, by decide⟩ rfl wf_11_19 dX11_one_1 ?_
  refine v_iload_n (f := 1) 1 rfl dX11_one_4 ?_
  refine v_cVIp (nA := 1) (As := [bI _]) (ix := 110) (cf_X8_has (b_wp_b h)) rfl kd_2 rfl rfl wc_X8_has wm_11_110 wi_X8_has ws_X8_has wn_8 ⟨by decide, by decide, by decide⟩ rfl ⟨by decide, by decide⟩ ⟨by decide, by decide⟩ (Nat.le_of_ble_eq_true rfl) dX11_one_5 (fun x1 h => ?_)
  refine v_if_eq (tgt := 29) dX11_one_8 (by decide) (fun c2 => ?_) (fun c2 => ?_)
  · replace h := b_wp_t c2 h
    refine v_bipush ⟨by decide, by decide⟩ (by decide) dX11_one_29 ?_
    refine v_ireturn rfl dX11_one_31 ⟨by decide, by decide⟩ ?_
    exact ⟨_, rfl, h⟩
  · replace h := b_wp_f c2 h
    refine v_aload_n (f := 0) 0 rfl dX11_one_11 ?_
    refine v_getR (kf := 1) (kz := 1) rfl kd_0 rfl ⟨by decide, by decide⟩ rfl wf_11_19 dX11_one_12 ?_
    refine v_iload_n (f := 2) 2 rfl dX11_one_15 ?_
    refine v_cVIp (nA := 1) (As := [bI _]) (ix := 110) (cf_X8_has (b_wp_b h)) rfl kd_2 rfl rfl wc_X8_has wm_11_110 wi_X8_has ws_X8_has wn_8 ⟨by decide, by decide, by decide⟩ rfl ⟨by decide, by decide⟩ ⟨by decide, by decide⟩ (Nat.le_of_ble_eq_true rfl) dX11_one_16 (fun x3 h => ?_)
    refine v_if_eq (tgt := 29) dX11_one_19 (by decide) (fun c4 => ?_) (fun c4 => ?_)
    · replace h := b_wp_t c4 h
      refine v_bipush ⟨by decide, by decide⟩ (by decide) dX11_one_29 ?_
      refine v_ireturn rfl dX11_one_31 ⟨by decide, by decide⟩ ?_
      exact ⟨_, rfl, h⟩
    · replace h := b_wp_f c4 h
      refine v_iload_n (f := 3) 3 rfl dX11_one_22 ?_
      refine v_cSIp (nA := 1) (As := [bI _]) (ix := 102) (cf_X11_isDay (b_wp_b h)) rfl wc_X11_isDay wm_11_102 wi_X11_isDay wn_11 ⟨by decide, by decide, by decide⟩ rfl ⟨by decide, by decide⟩ ⟨by decide, by decide⟩ (Nat.le_of_ble_eq_true rfl) dX11_one_23 (fun x5 h => ?_)
      refine v_if_ne (tgt := 32) dX11_one_26 (by decide) (fun c6 => ?_) (fun c6 => ?_)
      · replace h := b_wp_f c6 h
        refine v_aload_n (f := 0) 0 rfl dX11_one_32 ?_
        refine v_getR (kf := 1) (kz := 1) rfl kd_0 rfl ⟨by decide, by decide⟩ rfl wf_11_19 dX11_one_33 ?_
        refine v_iload_n (f := 3) 3 rfl dX11_one_36 ?_
        refine v_cVV (nA := 1) (As := [bI _]) (ix := 124) (cf_X8_know (b_wp_b h)) rfl kd_2 rfl rfl wc_X8_know wm_11_124 wi_X8_know ws_X8_know wn_8 ⟨by decide, by decide, by decide⟩ rfl ⟨by decide, by decide⟩ ⟨by decide, by decide⟩ (Nat.le_of_ble_eq_true rfl) dX11_one_37 (fun M7 h => ?_)
        refine v_aload_n (f := 0) 0 rfl dX11_one_40 ?_
        refine v_getR (kf := 1) (kz := 1) rfl kd_0 rfl ⟨by decide, by decide⟩ rfl wf_11_19 dX11_one_41 ?_
        refine v_iload_n (f := 1) 1 rfl dX11_one_44 ?_
        refine v_cVIp (nA := 1) (As := [bI _]) (ix := 130) (cf_X8_groupOf (b_wp_b h)) rfl kd_2 rfl rfl wc_X8_groupOf wm_11_130 wi_X8_groupOf ws_X8_groupOf wn_8 ⟨by decide, by decide, by decide⟩ rfl ⟨by decide, by decide⟩ ⟨by decide, by decide⟩ (Nat.le_of_ble_eq_true rfl) dX11_one_45 (fun x8 h => ?_)
        refine v_aload_n (f := 0) 0 rfl dX11_one_48 ?_
        refine v_getR (kf := 1) (kz := 1) rfl kd_0 rfl ⟨by decide, by decide⟩ rfl wf_11_19 dX11_one_49 ?_
        refine v_iload_n (f := 2) 2 rfl dX11_one_52 ?_
        refine v_cVIp (nA := 1) (As := [bI _]) (ix := 130) (cf_X8_groupOf (b_wp_b h)) rfl kd_2 rfl rfl wc_X8_groupOf wm_11_130 wi_X8_groupOf ws_X8_groupOf wn_8 ⟨by decide, by decide, by decide⟩ rfl ⟨by decide, by decide⟩ ⟨by decide, by decide⟩ (Nat.le_of_ble_eq_true rfl) dX11_one_53 (fun x9 h => ?_)
        refine v_icmp_ne (tgt := 63) dX11_one_56 (by decide) (fun c10 => ?_) (fun c10 => ?_)
        · replace h := b_wp_f c10 h
          refine v_iconst ⟨by decide, by decide⟩ dX11_one_63 ?_
          refine v_ireturn rfl dX11_one_64 ⟨by decide, by decide⟩ ?_
          exact ⟨_, rfl, h⟩
        · replace h := b_wp_t c10 h
          refine v_iconst ⟨by decide, by decide⟩ dX11_one_59 ?_
          refine v_goto (tgt := 64) dX11_one_60 (by decide) ?_
          refine v_ireturn rfl dX11_one_64 ⟨by decide, by decide⟩ ?_
          exact ⟨_, rfl, h⟩
      · replace h := b_wp_t c6 h
        refine v_bipush ⟨by decide, by decide⟩ (by decide) dX11_one_29 ?_
        refine v_ireturn rfl dX11_one_31 ⟨by decide, by decide⟩ ?_
        exact ⟨_, rfl, h⟩
theorem cf_X11_one {l : Launch} {E : bE} {M : bM} {v1 : Int} {v2 : Int} {v3 : Int} {Q : (Int × bM) → Prop} (h : b_wp (F_X11_one v1 v2 v3 M) Q) : b_C l E xX11_one yX11_one [bR 0, bI v1, bI v2, bI v3] M (b_pI Q) := b_met (by decide) ⟨rfl, rfl⟩ (Nat.le_of_ble_eq_true rfl) (fun _ _ => t_X11_one h)
abbrev xX8_quarrels : bX := ("BurntHall$People", prog_10_method_12_code, 4, (Option.some Jvm.ClassFile.FieldType.int), b_rm 1 0 0, 0, "quarrels")
abbrev yX8_quarrels : MethodName := ⟨"BurntHall$People", "quarrels", "(I)I"⟩
theorem dX8_quarrels_0 : decode prog_10_method_12_code 0 = .ok (.iconst 0, 1) := by decide +kernel
theorem dX8_quarrels_1 : decode prog_10_method_12_code 1 = .ok (.istore_n 2, 1) := by decide +kernel
theorem dX8_quarrels_2 : decode prog_10_method_12_code 2 = .ok (.iconst 0, 1) := by decide +kernel
theorem dX8_quarrels_3 : decode prog_10_method_12_code 3 = .ok (.istore_n 3, 1) := by decide +kernel
theorem dX8_quarrels_4 : decode prog_10_method_12_code 4 = .ok (.iload_n 3, 1) := by decide +kernel
theorem dX8_quarrels_5 : decode prog_10_method_12_code 5 = .ok (.aload_n 0, 1) := by decide +kernel
theorem dX8_quarrels_6 : decode prog_10_method_12_code 6 = .ok (.getfield 47, 3) := by decide +kernel
theorem dX8_quarrels_9 : decode prog_10_method_12_code 9 = .ok (.if_icmp .ge 57, 3) := by decide +kernel
theorem dX8_quarrels_12 : decode prog_10_method_12_code 12 = .ok (.aload_n 0, 1) := by decide +kernel
theorem dX8_quarrels_13 : decode prog_10_method_12_code 13 = .ok (.getfield 15, 3) := by decide +kernel
theorem dX8_quarrels_16 : decode prog_10_method_12_code 16 = .ok (.iload_n 3, 1) := by decide +kernel
theorem dX8_quarrels_17 : decode prog_10_method_12_code 17 = .ok (.iaload, 1) := by decide +kernel
theorem dX8_quarrels_18 : decode prog_10_method_12_code 18 = .ok (.iconst 2, 1) := by decide +kernel
theorem dX8_quarrels_19 : decode prog_10_method_12_code 19 = .ok (.if_icmp .ne 41, 3) := by decide +kernel
theorem dX8_quarrels_22 : decode prog_10_method_12_code 22 = .ok (.aload_n 0, 1) := by decide +kernel
theorem dX8_quarrels_23 : decode prog_10_method_12_code 23 = .ok (.getfield 24, 3) := by decide +kernel
theorem dX8_quarrels_26 : decode prog_10_method_12_code 26 = .ok (.iload_n 3, 1) := by decide +kernel
theorem dX8_quarrels_27 : decode prog_10_method_12_code 27 = .ok (.iaload, 1) := by decide +kernel
theorem dX8_quarrels_28 : decode prog_10_method_12_code 28 = .ok (.iload_n 1, 1) := by decide +kernel
theorem dX8_quarrels_29 : decode prog_10_method_12_code 29 = .ok (.if_icmp .gt 31, 3) := by decide +kernel
theorem dX8_quarrels_32 : decode prog_10_method_12_code 32 = .ok (.aload_n 0, 1) := by decide +kernel
theorem dX8_quarrels_33 : decode prog_10_method_12_code 33 = .ok (.getfield 31, 3) := by decide +kernel
theorem dX8_quarrels_36 : decode prog_10_method_12_code 36 = .ok (.aload_n 0, 1) := by decide +kernel
theorem dX8_quarrels_37 : decode prog_10_method_12_code 37 = .ok (.getfield 18, 3) := by decide +kernel
theorem dX8_quarrels_40 : decode prog_10_method_12_code 40 = .ok (.iload_n 3, 1) := by decide +kernel
theorem dX8_quarrels_41 : decode prog_10_method_12_code 41 = .ok (.iaload, 1) := by decide +kernel
theorem dX8_quarrels_42 : decode prog_10_method_12_code 42 = .ok (.iaload, 1) := by decide +kernel
theorem dX8_quarrels_43 : decode prog_10_method_12_code 43 = .ok (.aload_n 0, 1) := by decide +kernel
theorem dX8_quarrels_44 : decode prog_10_method_12_code 44 = .ok (.getfield 31, 3) := by decide +kernel
theorem dX8_quarrels_47 : decode prog_10_method_12_code 47 = .ok (.aload_n 0, 1) := by decide +kernel
theorem dX8_quarrels_48 : decode prog_10_method_12_code 48 = .ok (.getfield 21, 3) := by decide +kernel
theorem dX8_quarrels_51 : decode prog_10_method_12_code 51 = .ok (.iload_n 3, 1) := by decide +kernel
theorem dX8_quarrels_52 : decode prog_10_method_12_code 52 = .ok (.iaload, 1) := by decide +kernel
theorem dX8_quarrels_53 : decode prog_10_method_12_code 53 = .ok (.iaload, 1) := by decide +kernel
theorem dX8_quarrels_54 : decode prog_10_method_12_code 54 = .ok (.if_icmp .ne 6, 3) := by decide +kernel
theorem dX8_quarrels_57 : decode prog_10_method_12_code 57 = .ok (.iinc 2 1, 3) := by decide +kernel
theorem dX8_quarrels_60 : decode prog_10_method_12_code 60 = .ok (.iinc 3 1, 3) := by decide +kernel
theorem dX8_quarrels_63 : decode prog_10_method_12_code 63 = .ok (.goto (-59), 3) := by decide +kernel
theorem dX8_quarrels_66 : decode prog_10_method_12_code 66 = .ok (.iload_n 2, 1) := by decide +kernel
theorem dX8_quarrels_67 : decode prog_10_method_12_code 67 = .ok (.ireturn, 1) := by decide +kernel
abbrev A_X8_quarrels_4 (l : Launch) (E : bE) (Q : Int → Prop) (v1 : Int) (M : bM) : (Int × Int) → Prop := (fun t : Int × Int => V l E xX8_quarrels (0, 0) 4 [(0, bR 2), (1, bI v1), (2, bI (t.1)), (3, bI (t.2))] [] M (b_pIp M Q))
abbrev X_X8_quarrels_4 (l : Launch) (E : bE) (Q : Int → Prop) (v1 : Int) (M : bM) : (Int) → Prop := (fun t : Int => V l E xX8_quarrels (0, 0) 66 [(2, bI t)] [] M (b_pIp M Q))
noncomputable def F_X8_quarrels_s4 (v1 : Int) (v2 : Int) (v3 : Int) (M : bM) : Option ((Int × Int) ⊕ (Int)) :=
  if (M 2 1) ≤ v3 then (some (.inr (v2))) else (b_g (0 ≤ v3 ∧ v3 < 400) (if (M 77 v3) = 2 then (b_g (0 ≤ v3 ∧ v3 < 400) (if v1 < (M 80 v3) then (b_g (b_i32 (v3 + 1)) (some (.inl (v2, (v3 + 1))))) else (b_g ((0 ≤ v3 ∧ v3 < 400) ∧ (0 ≤ (M 78 v3) ∧ (M 78 v3) < 80) ∧ (0 ≤ (M 79 v3) ∧ (M 79 v3) < 80)) (if (M 81 (M 78 v3)) = (M 81 (M 79 v3)) then (b_g ((b_i32 (v2 + 1)) ∧ (b_i32 (v3 + 1))) (some (.inl ((v2 + 1), (v3 + 1))))) else (b_g (b_i32 (v3 + 1)) (some (.inl (v2, (v3 + 1))))))))) else (b_g (b_i32 (v3 + 1)) (some (.inl (v2, (v3 + 1)))))))
theorem t_X8_quarrels_s4 {l : Launch} {E : bE} {Q : Int → Prop} {v1 : Int} {v2 : Int} {v3 : Int} {M : bM} (h : b_wp (F_X8_quarrels_s4 v1 v2 v3 M) (Sum.elim (A_X8_quarrels_4 l E Q v1 M) (X_X8_quarrels_4 l E Q v1 M))) : V l E xX8_quarrels (0, 0) 4 [(0, bR 2), (1, bI v1), (2, bI v2), (3, bI v3)] [] M (b_pIp M Q) := by
  unfold F_X8_quarrels_s4 at h
  refine v_iload_n (f := 3) 3 rfl dX8_quarrels_4 ?_
  refine v_aload_n (f := 0) 0 rfl dX8_quarrels_5 ?_
  refine v_getI (kf := 1) (kz := 1) rfl kd_2 rfl ⟨by decide, by decide⟩ rfl wf_8_47 dX8_quarrels_6 ?_
  refine v_icmp_ge (tgt := 66) dX8_quarrels_9 (by decide) (fun c1 => ?_) (fun c1 => ?_)
  · replace h := b_wp_t c1 h
    refine v_sub (ls2 := [(2, bI _)]) [2] rfl ?_
    exact h
  · replace h := b_wp_f c1 h
    obtain ⟨g2, h⟩ := b_wp_g h
    refine v_aload_n (f := 0) 0 rfl dX8_quarrels_12 ?_
    refine v_getR (kf := 3) (kz := 3) rfl kd_2 rfl ⟨by decide, by decide⟩ rfl wf_8_15 dX8_quarrels_13 ?_
    refine v_iload_n (f := 3) 3 rfl dX8_quarrels_16 ?_
    refine v_iaload kd_77 g2 (by decide) dX8_quarrels_17 ?_
    refine v_iconst ⟨by decide, by decide⟩ dX8_quarrels_18 ?_
    refine v_icmp_ne (tgt := 60) dX8_quarrels_19 (by decide) (fun c3 => ?_) (fun c3 => ?_)
    · replace h := b_wp_f c3 h
      obtain ⟨g4, h⟩ := b_wp_g h
      refine v_iincN (ls' := [(3, bI _), (0, bR _), (1, bI _), (2, bI _)]) 3 rfl (by decide) g4 dX8_quarrels_60 rfl ?_
      refine v_goto (tgt := 4) dX8_quarrels_63 (by decide) ?_
      refine v_sub (ls2 := [(0, bR _), (1, bI _), (2, bI _), (3, bI _)]) [1, 2, 3, 0] rfl ?_
      exact h
    · replace h := b_wp_t c3 h
      obtain ⟨g5, h⟩ := b_wp_g h
      refine v_aload_n (f := 0) 0 rfl dX8_quarrels_22 ?_
      refine v_getR (kf := 6) (kz := 6) rfl kd_2 rfl ⟨by decide, by decide⟩ rfl wf_8_24 dX8_quarrels_23 ?_
      refine v_iload_n (f := 3) 3 rfl dX8_quarrels_26 ?_
      refine v_iaload kd_80 g5 (by decide) dX8_quarrels_27 ?_
      refine v_iload_n (f := 1) 1 rfl dX8_quarrels_28 ?_
      refine v_icmp_gt (tgt := 60) dX8_quarrels_29 (by decide) (fun c6 => ?_) (fun c6 => ?_)
      · replace h := b_wp_t c6 h
        obtain ⟨g7, h⟩ := b_wp_g h
        refine v_iincN (ls' := [(3, bI _), (0, bR _), (1, bI _), (2, bI _)]) 3 rfl (by decide) g7 dX8_quarrels_60 rfl ?_
        refine v_goto (tgt := 4) dX8_quarrels_63 (by decide) ?_
        refine v_sub (ls2 := [(0, bR _), (1, bI _), (2, bI _), (3, bI _)]) [1, 2, 3, 0] rfl ?_
        exact h
      · replace h := b_wp_f c6 h
        obtain ⟨⟨g8, g9, g10⟩, h⟩ := b_wp_g h
        refine v_aload_n (f := 0) 0 rfl dX8_quarrels_32 ?_
        refine v_getR (kf := 10) (kz := 10) rfl kd_2 rfl ⟨by decide, by decide⟩ rfl wf_8_31 dX8_quarrels_33 ?_
        refine v_aload_n (f := 0) 0 rfl dX8_quarrels_36 ?_
        refine v_getR (kf := 4) (kz := 4) rfl kd_2 rfl ⟨by decide, by decide⟩ rfl wf_8_18 dX8_quarrels_37 ?_
        refine v_iload_n (f := 3) 3 rfl dX8_quarrels_40 ?_
        refine v_iaload kd_78 g8 (by decide) dX8_quarrels_41 ?_
        refine v_iaload kd_81 g9 (by decide) dX8_quarrels_42 ?_
        refine v_aload_n (f := 0) 0 rfl dX8_quarrels_43 ?_
        refine v_getR (kf := 10) (kz := 10) rfl kd_2 rfl ⟨by decide, by decide⟩ rfl wf_8_31 dX8_quarrels_44 ?_
        refine v_aload_n (f := 0) 0 rfl dX8_quarrels_47 ?_
        refine v_getR (kf := 5) (kz := 5) rfl kd_2 rfl ⟨by decide, by decide⟩ rfl wf_8_21 dX8_quarrels_48 ?_
        refine v_iload_n (f := 3) 3 rfl dX8_quarrels_51 ?_
        refine v_iaload kd_79 g8 (by decide) dX8_quarrels_52 ?_
        refine v_iaload kd_81 g10 (by decide) dX8_quarrels_53 ?_
        refine v_icmp_ne (tgt := 60) dX8_quarrels_54 (by decide) (fun c11 => ?_) (fun c11 => ?_)
        · replace h := b_wp_f c11 h
          obtain ⟨g12, h⟩ := b_wp_g h
          refine v_iincN (ls' := [(3, bI _), (0, bR _), (1, bI _), (2, bI _)]) 3 rfl (by decide) g12 dX8_quarrels_60 rfl ?_
          refine v_goto (tgt := 4) dX8_quarrels_63 (by decide) ?_
          refine v_sub (ls2 := [(0, bR _), (1, bI _), (2, bI _), (3, bI _)]) [1, 2, 3, 0] rfl ?_
          exact h
        · replace h := b_wp_t c11 h
          obtain ⟨⟨g13, g14⟩, h⟩ := b_wp_g h
          refine v_iincN (ls' := [(2, bI _), (0, bR _), (1, bI _), (3, bI _)]) 2 rfl (by decide) g13 dX8_quarrels_57 rfl ?_
          refine v_iincN (ls' := [(3, bI _), (2, bI _), (0, bR _), (1, bI _)]) 3 rfl (by decide) g14 dX8_quarrels_60 rfl ?_
          refine v_goto (tgt := 4) dX8_quarrels_63 (by decide) ?_
          refine v_sub (ls2 := [(0, bR _), (1, bI _), (2, bI _), (3, bI _)]) [2, 3, 1, 0] rfl ?_
          exact h
theorem l_X8_quarrels_4 {l : Launch} {E : bE} {Q : Int → Prop} {v1 : Int} {M : bM} {s : Int × Int} (h : b_wp (b_loop (fun t => F_X8_quarrels_s4 v1 t.1 t.2 M) s) (X_X8_quarrels_4 l E Q v1 M)) : A_X8_quarrels_4 l E Q v1 M s := b_loop_wp (fun t h => t_X8_quarrels_s4 h) s h
noncomputable def F_X8_quarrels_b66 (v2 : Int) (M : bM) : Option (Int) :=
  some v2
theorem t_X8_quarrels_b66 {l : Launch} {E : bE} {Q : Int → Prop} {v2 : Int} {M : bM} (h : b_wp (F_X8_quarrels_b66 v2 M) (Q)) : V l E xX8_quarrels (0, 0) 66 [(2, bI v2)] [] M (b_pIp M Q) := by
  unfold F_X8_quarrels_b66 at h
  refine v_iload_n (f := 2) 0 rfl dX8_quarrels_66 ?_
  refine v_ireturn rfl dX8_quarrels_67 ⟨by decide, by decide⟩ ?_
  exact ⟨_, rfl, rfl, h⟩
noncomputable def F_X8_quarrels (v1 : Int) (M : bM) : Option (Int) :=
  b_bind (b_loop (fun t => F_X8_quarrels_s4 v1 t.1 t.2 M) (0, 0)) (fun t => F_X8_quarrels_b66 t M)
theorem t_X8_quarrels {l : Launch} {E : bE} {Q : Int → Prop} {v1 : Int} {M : bM} (h : b_wp (F_X8_quarrels v1 M) (Q)) : V l E xX8_quarrels (0, 0) 0 [(0, bR 2), (1, bI v1)] [] M (b_pIp M Q) := by
  unfold F_X8_quarrels at h
  refine v_iconst ⟨by decide, by decide⟩ dX8_quarrels_0 ?_
  refine v_istore_n (g := 2) (i := 2) (ls' := [(2, bI _), (0, bR _), (1, bI _)]) rfl (by decide) dX8_quarrels_1 rfl ?_
  refine v_iconst ⟨by decide, by decide⟩ dX8_quarrels_2 ?_
  refine v_istore_n (g := 3) (i := 3) (ls' := [(3, bI _), (2, bI _), (0, bR _), (1, bI _)]) rfl (by decide) dX8_quarrels_3 rfl ?_
  refine v_sub (ls2 := [(0, bR _), (1, bI _), (2, bI _), (3, bI _)]) [2, 3, 1, 0] rfl ?_
  refine l_X8_quarrels_4 (b_wp_m (fun t h => ?_) (b_wp_b h))
  show V l E xX8_quarrels (0, 0) 66 [(2, bI _)] [] _ (b_pIp M Q)
  exact t_X8_quarrels_b66 h
theorem cf_X8_quarrels {l : Launch} {E : bE} {M : bM} {v1 : Int} {Q : Int → Prop} (h : b_wp (F_X8_quarrels v1 M) Q) : b_C l E xX8_quarrels yX8_quarrels [bR 2, bI v1] M (b_pIp M Q) := b_met (by decide) ⟨rfl, rfl⟩ (Nat.le_of_ble_eq_true rfl) (fun _ _ => t_X8_quarrels h)
abbrev xX11_names : bX := ("BurntHall", prog_1_method_13_code, 2, (Option.some Jvm.ClassFile.FieldType.int), b_rm 4 0 0, 0, "names")
abbrev yX11_names : MethodName := ⟨"BurntHall", "names", "(I)I"⟩
theorem dX11_names_0 : decode prog_1_method_13_code 0 = .ok (.iload_n 1, 1) := by decide +kernel
theorem dX11_names_1 : decode prog_1_method_13_code 1 = .ok (.invokestatic 102, 3) := by decide +kernel
theorem dX11_names_4 : decode prog_1_method_13_code 4 = .ok (.ifCond .ne 6, 3) := by decide +kernel
theorem dX11_names_7 : decode prog_1_method_13_code 7 = .ok (.bipush (-2), 2) := by decide +kernel
theorem dX11_names_9 : decode prog_1_method_13_code 9 = .ok (.ireturn, 1) := by decide +kernel
theorem dX11_names_10 : decode prog_1_method_13_code 10 = .ok (.aload_n 0, 1) := by decide +kernel
theorem dX11_names_11 : decode prog_1_method_13_code 11 = .ok (.getfield 19, 3) := by decide +kernel
theorem dX11_names_14 : decode prog_1_method_13_code 14 = .ok (.iload_n 1, 1) := by decide +kernel
theorem dX11_names_15 : decode prog_1_method_13_code 15 = .ok (.invokevirtual 124, 3) := by decide +kernel
theorem dX11_names_18 : decode prog_1_method_13_code 18 = .ok (.aload_n 0, 1) := by decide +kernel
theorem dX11_names_19 : decode prog_1_method_13_code 19 = .ok (.getfield 19, 3) := by decide +kernel
theorem dX11_names_22 : decode prog_1_method_13_code 22 = .ok (.iload_n 1, 1) := by decide +kernel
theorem dX11_names_23 : decode prog_1_method_13_code 23 = .ok (.invokevirtual 133, 3) := by decide +kernel
theorem dX11_names_26 : decode prog_1_method_13_code 26 = .ok (.ireturn, 1) := by decide +kernel
noncomputable def F_X11_names (v1 : Int) (M : bM) : Option (Int × bM) :=
  b_bind (F_X11_isDay v1 M) (fun x1 => if x1 = 0 then (some ((-2), M)) else (b_bind (F_X8_know v1 M) (fun M3 => b_bind (F_X8_quarrels v1 M3) (fun x4 => some (x4, M3)))))
theorem t_X11_names {l : Launch} {E : bE} {Q : (Int × bM) → Prop} {v1 : Int} {M : bM} (h : b_wp (F_X11_names v1 M) (Q)) : V l E xX11_names (0, 0) 0 [(0, bR 0), (1, bI v1)] [] M (b_pI Q) := by
  unfold F_X11_names at h
  refine v_iload_n (f := 1) 1 rfl dX11_names_0 ?_
  refine v_cSIp (nA := 1) (As := [bI _]) (ix := 102) (cf_X11_isDay (b_wp_b h)) rfl wc_X11_isDay wm_11_102 wi_X11_isDay wn_11 ⟨by decide, by decide, by decide⟩ rfl ⟨by decide, by decide⟩ ⟨by decide, by decide⟩ (Nat.le_of_ble_eq_true rfl) dX11_names_1 (fun x1 h => ?_)
  refine v_if_ne (tgt := 10) dX11_names_4 (by decide) (fun c2 => ?_) (fun c2 => ?_)
  · replace h := b_wp_f c2 h
    refine v_aload_n (f := 0) 0 rfl dX11_names_10 ?_
    refine v_getR (kf := 1) (kz := 1) rfl kd_0 rfl ⟨by decide, by decide⟩ rfl wf_11_19 dX11_names_11 ?_
    refine v_iload_n (f := 1) 1 rfl dX11_names_14 ?_
    refine v_cVV (nA := 1) (As := [bI _]) (ix := 124) (cf_X8_know (b_wp_b h)) rfl kd_2 rfl rfl wc_X8_know wm_11_124 wi_X8_know ws_X8_know wn_8 ⟨by decide, by decide, by decide⟩ rfl ⟨by decide, by decide⟩ ⟨by decide, by decide⟩ (Nat.le_of_ble_eq_true rfl) dX11_names_15 (fun M3 h => ?_)
    refine v_aload_n (f := 0) 0 rfl dX11_names_18 ?_
    refine v_getR (kf := 1) (kz := 1) rfl kd_0 rfl ⟨by decide, by decide⟩ rfl wf_11_19 dX11_names_19 ?_
    refine v_iload_n (f := 1) 1 rfl dX11_names_22 ?_
    refine v_cVIp (nA := 1) (As := [bI _]) (ix := 133) (cf_X8_quarrels (b_wp_b h)) rfl kd_2 rfl rfl wc_X8_quarrels wm_11_133 wi_X8_quarrels ws_X8_quarrels wn_8 ⟨by decide, by decide, by decide⟩ rfl ⟨by decide, by decide⟩ ⟨by decide, by decide⟩ (Nat.le_of_ble_eq_true rfl) dX11_names_23 (fun x4 h => ?_)
    refine v_ireturn rfl dX11_names_26 ⟨by decide, by decide⟩ ?_
    exact ⟨_, rfl, h⟩
  · replace h := b_wp_t c2 h
    refine v_bipush ⟨by decide, by decide⟩ (by decide) dX11_names_7 ?_
    refine v_ireturn rfl dX11_names_9 ⟨by decide, by decide⟩ ?_
    exact ⟨_, rfl, h⟩
theorem cf_X11_names {l : Launch} {E : bE} {M : bM} {v1 : Int} {Q : (Int × bM) → Prop} (h : b_wp (F_X11_names v1 M) Q) : b_C l E xX11_names yX11_names [bR 0, bI v1] M (b_pI Q) := b_met (by decide) ⟨rfl, rfl⟩ (Nat.le_of_ble_eq_true rfl) (fun _ _ => t_X11_names h)
abbrev xX5_isFeet : bX := ("BurntHall$Lots", prog_7_method_2_code, 1, (Option.some Jvm.ClassFile.FieldType.boolean), b_rm 1 0 0, 0, "isFeet")
abbrev yX5_isFeet : MethodName := ⟨"BurntHall$Lots", "isFeet", "(I)Z"⟩
theorem dX5_isFeet_0 : decode prog_7_method_2_code 0 = .ok (.iload_n 0, 1) := by decide +kernel
theorem dX5_isFeet_1 : decode prog_7_method_2_code 1 = .ok (.iconst 1, 1) := by decide +kernel
theorem dX5_isFeet_2 : decode prog_7_method_2_code 2 = .ok (.if_icmp .lt 13, 3) := by decide +kernel
theorem dX5_isFeet_5 : decode prog_7_method_2_code 5 = .ok (.iload_n 0, 1) := by decide +kernel
theorem dX5_isFeet_6 : decode prog_7_method_2_code 6 = .ok (.ldc 78, 2) := by decide +kernel
theorem dX5_isFeet_8 : decode prog_7_method_2_code 8 = .ok (.if_icmp .gt 7, 3) := by decide +kernel
theorem dX5_isFeet_11 : decode prog_7_method_2_code 11 = .ok (.iconst 1, 1) := by decide +kernel
theorem dX5_isFeet_12 : decode prog_7_method_2_code 12 = .ok (.goto 4, 3) := by decide +kernel
theorem dX5_isFeet_15 : decode prog_7_method_2_code 15 = .ok (.iconst 0, 1) := by decide +kernel
theorem dX5_isFeet_16 : decode prog_7_method_2_code 16 = .ok (.ireturn, 1) := by decide +kernel
noncomputable def F_X5_isFeet (v0 : Int) (M : bM) : Option (Int) :=
  if v0 < 1 then (some 0) else (if 999999 < v0 then (some 0) else (some 1))
theorem t_X5_isFeet {l : Launch} {E : bE} {Q : Int → Prop} {v0 : Int} {M : bM} (h : b_wp (F_X5_isFeet v0 M) (Q)) : V l E xX5_isFeet (0, 0) 0 [(0, bI v0)] [] M (b_pIp M Q) := by
  unfold F_X5_isFeet at h
  refine v_iload_n (f := 0) 0 rfl dX5_isFeet_0 ?_
  refine v_iconst ⟨by decide, by decide⟩ dX5_isFeet_1 ?_
  refine v_icmp_lt (tgt := 15) dX5_isFeet_2 (by decide) (fun c1 => ?_) (fun c1 => ?_)
  · replace h := b_wp_t c1 h
    refine v_iconst ⟨by decide, by decide⟩ dX5_isFeet_15 ?_
    refine v_zreturn rfl (Or.inl rfl) dX5_isFeet_16 ⟨by decide, by decide⟩ ?_
    exact ⟨_, rfl, rfl, h⟩
  · replace h := b_wp_f c1 h
    refine v_iload_n (f := 0) 0 rfl dX5_isFeet_5 ?_
    refine v_ldc (n := 999999) ⟨by decide, by decide⟩ wk_5_78 dX5_isFeet_6 ?_
    refine v_icmp_gt (tgt := 15) dX5_isFeet_8 (by decide) (fun c2 => ?_) (fun c2 => ?_)
    · replace h := b_wp_t c2 h
      refine v_iconst ⟨by decide, by decide⟩ dX5_isFeet_15 ?_
      refine v_zreturn rfl (Or.inl rfl) dX5_isFeet_16 ⟨by decide, by decide⟩ ?_
      exact ⟨_, rfl, rfl, h⟩
    · replace h := b_wp_f c2 h
      refine v_iconst ⟨by decide, by decide⟩ dX5_isFeet_11 ?_
      refine v_goto (tgt := 16) dX5_isFeet_12 (by decide) ?_
      refine v_zreturn rfl (Or.inr rfl) dX5_isFeet_16 ⟨by decide, by decide⟩ ?_
      exact ⟨_, rfl, rfl, h⟩
theorem cf_X5_isFeet {l : Launch} {E : bE} {M : bM} {v0 : Int} {Q : Int → Prop} (h : b_wp (F_X5_isFeet v0 M) Q) : b_C l E xX5_isFeet yX5_isFeet [bI v0] M (b_pIp M Q) := b_met (by decide) ⟨rfl, rfl⟩ (Nat.le_of_ble_eq_true rfl) (fun _ _ => t_X5_isFeet h)
abbrev xX5_room : bX := ("BurntHall$Lots", prog_7_method_4_code, 1, (Option.some Jvm.ClassFile.FieldType.int), b_rm 1 0 0, 0, "room")
abbrev yX5_room : MethodName := ⟨"BurntHall$Lots", "room", "()I"⟩
theorem dX5_room_0 : decode prog_7_method_4_code 0 = .ok (.bipush 60, 2) := by decide +kernel
theorem dX5_room_2 : decode prog_7_method_4_code 2 = .ok (.aload_n 0, 1) := by decide +kernel
theorem dX5_room_3 : decode prog_7_method_4_code 3 = .ok (.getfield 79, 3) := by decide +kernel
theorem dX5_room_6 : decode prog_7_method_4_code 6 = .ok (.isub, 1) := by decide +kernel
theorem dX5_room_7 : decode prog_7_method_4_code 7 = .ok (.ireturn, 1) := by decide +kernel
noncomputable def F_X5_room (M : bM) : Option (Int) :=
  b_g (b_i32 (60 - (M 3 0))) (some (60 - (M 3 0)))
theorem t_X5_room {l : Launch} {E : bE} {Q : Int → Prop} {M : bM} (h : b_wp (F_X5_room M) (Q)) : V l E xX5_room (0, 0) 0 [(0, bR 3)] [] M (b_pIp M Q) := by
  unfold F_X5_room at h
  obtain ⟨g1, h⟩ := b_wp_g h
  refine v_bipush ⟨by decide, by decide⟩ (by decide) dX5_room_0 ?_
  refine v_aload_n (f := 0) 0 rfl dX5_room_2 ?_
  refine v_getI (kf := 0) (kz := 0) rfl kd_3 rfl ⟨by decide, by decide⟩ rfl wf_5_79 dX5_room_3 ?_
  refine v_isubN g1 dX5_room_6 ?_
  refine v_ireturn rfl dX5_room_7 ⟨by decide, by decide⟩ ?_
  exact ⟨_, rfl, rfl, h⟩
theorem cf_X5_room {l : Launch} {E : bE} {M : bM} {Q : Int → Prop} (h : b_wp (F_X5_room M) Q) : b_C l E xX5_room yX5_room [bR 3] M (b_pIp M Q) := b_met (by decide) ⟨rfl, rfl⟩ (Nat.le_of_ble_eq_true rfl) (fun _ _ => t_X5_room h)
abbrev xX5_add : bX := ("BurntHall$Lots", prog_7_method_5_code, 5, (Option.some Jvm.ClassFile.FieldType.int), b_rm 1 0 0, 0, "add")
abbrev yX5_add : MethodName := ⟨"BurntHall$Lots", "add", "(IIJ)I"⟩
theorem dX5_add_0 : decode prog_7_method_5_code 0 = .ok (.aload_n 0, 1) := by decide +kernel
theorem dX5_add_1 : decode prog_7_method_5_code 1 = .ok (.getfield 79, 3) := by decide +kernel
theorem dX5_add_4 : decode prog_7_method_5_code 4 = .ok (.bipush 60, 2) := by decide +kernel
theorem dX5_add_6 : decode prog_7_method_5_code 6 = .ok (.if_icmp .lt 6, 3) := by decide +kernel
theorem dX5_add_9 : decode prog_7_method_5_code 9 = .ok (.bipush (-3), 2) := by decide +kernel
theorem dX5_add_11 : decode prog_7_method_5_code 11 = .ok (.ireturn, 1) := by decide +kernel
theorem dX5_add_12 : decode prog_7_method_5_code 12 = .ok (.aload_n 0, 1) := by decide +kernel
theorem dX5_add_13 : decode prog_7_method_5_code 13 = .ok (.getfield 23, 3) := by decide +kernel
theorem dX5_add_16 : decode prog_7_method_5_code 16 = .ok (.aload_n 0, 1) := by decide +kernel
theorem dX5_add_17 : decode prog_7_method_5_code 17 = .ok (.getfield 79, 3) := by decide +kernel
theorem dX5_add_20 : decode prog_7_method_5_code 20 = .ok (.iload_n 1, 1) := by decide +kernel
theorem dX5_add_21 : decode prog_7_method_5_code 21 = .ok (.iastore, 1) := by decide +kernel
theorem dX5_add_22 : decode prog_7_method_5_code 22 = .ok (.aload_n 0, 1) := by decide +kernel
theorem dX5_add_23 : decode prog_7_method_5_code 23 = .ok (.getfield 27, 3) := by decide +kernel
theorem dX5_add_26 : decode prog_7_method_5_code 26 = .ok (.aload_n 0, 1) := by decide +kernel
theorem dX5_add_27 : decode prog_7_method_5_code 27 = .ok (.getfield 79, 3) := by decide +kernel
theorem dX5_add_30 : decode prog_7_method_5_code 30 = .ok (.iload_n 2, 1) := by decide +kernel
theorem dX5_add_31 : decode prog_7_method_5_code 31 = .ok (.iastore, 1) := by decide +kernel
theorem dX5_add_32 : decode prog_7_method_5_code 32 = .ok (.aload_n 0, 1) := by decide +kernel
theorem dX5_add_33 : decode prog_7_method_5_code 33 = .ok (.getfield 30, 3) := by decide +kernel
theorem dX5_add_36 : decode prog_7_method_5_code 36 = .ok (.aload_n 0, 1) := by decide +kernel
theorem dX5_add_37 : decode prog_7_method_5_code 37 = .ok (.getfield 79, 3) := by decide +kernel
theorem dX5_add_40 : decode prog_7_method_5_code 40 = .ok (.iconst (-1), 1) := by decide +kernel
theorem dX5_add_41 : decode prog_7_method_5_code 41 = .ok (.iastore, 1) := by decide +kernel
theorem dX5_add_42 : decode prog_7_method_5_code 42 = .ok (.aload_n 0, 1) := by decide +kernel
theorem dX5_add_43 : decode prog_7_method_5_code 43 = .ok (.getfield 39, 3) := by decide +kernel
theorem dX5_add_46 : decode prog_7_method_5_code 46 = .ok (.aload_n 0, 1) := by decide +kernel
theorem dX5_add_47 : decode prog_7_method_5_code 47 = .ok (.getfield 79, 3) := by decide +kernel
theorem dX5_add_50 : decode prog_7_method_5_code 50 = .ok (.lload_n 3, 1) := by decide +kernel
theorem dX5_add_51 : decode prog_7_method_5_code 51 = .ok (.lconst 1, 1) := by decide +kernel
theorem dX5_add_52 : decode prog_7_method_5_code 52 = .ok (.aload_n 0, 1) := by decide +kernel
theorem dX5_add_53 : decode prog_7_method_5_code 53 = .ok (.getfield 79, 3) := by decide +kernel
theorem dX5_add_56 : decode prog_7_method_5_code 56 = .ok (.lshl, 1) := by decide +kernel
theorem dX5_add_57 : decode prog_7_method_5_code 57 = .ok (.lor, 1) := by decide +kernel
theorem dX5_add_58 : decode prog_7_method_5_code 58 = .ok (.lastore, 1) := by decide +kernel
theorem dX5_add_59 : decode prog_7_method_5_code 59 = .ok (.aload_n 0, 1) := by decide +kernel
theorem dX5_add_60 : decode prog_7_method_5_code 60 = .ok (.getfield 42, 3) := by decide +kernel
theorem dX5_add_63 : decode prog_7_method_5_code 63 = .ok (.aload_n 0, 1) := by decide +kernel
theorem dX5_add_64 : decode prog_7_method_5_code 64 = .ok (.getfield 79, 3) := by decide +kernel
theorem dX5_add_67 : decode prog_7_method_5_code 67 = .ok (.iconst (-1), 1) := by decide +kernel
theorem dX5_add_68 : decode prog_7_method_5_code 68 = .ok (.iastore, 1) := by decide +kernel
theorem dX5_add_69 : decode prog_7_method_5_code 69 = .ok (.aload_n 0, 1) := by decide +kernel
theorem dX5_add_70 : decode prog_7_method_5_code 70 = .ok (.dup, 1) := by decide +kernel
theorem dX5_add_71 : decode prog_7_method_5_code 71 = .ok (.getfield 79, 3) := by decide +kernel
theorem dX5_add_74 : decode prog_7_method_5_code 74 = .ok (.iconst 1, 1) := by decide +kernel
theorem dX5_add_75 : decode prog_7_method_5_code 75 = .ok (.iadd, 1) := by decide +kernel
theorem dX5_add_76 : decode prog_7_method_5_code 76 = .ok (.putfield 79, 3) := by decide +kernel
theorem dX5_add_79 : decode prog_7_method_5_code 79 = .ok (.aload_n 0, 1) := by decide +kernel
theorem dX5_add_80 : decode prog_7_method_5_code 80 = .ok (.getfield 79, 3) := by decide +kernel
theorem dX5_add_83 : decode prog_7_method_5_code 83 = .ok (.iconst 1, 1) := by decide +kernel
theorem dX5_add_84 : decode prog_7_method_5_code 84 = .ok (.isub, 1) := by decide +kernel
theorem dX5_add_85 : decode prog_7_method_5_code 85 = .ok (.ireturn, 1) := by decide +kernel
noncomputable def F_X5_add (v1 : Int) (v2 : Int) (v3 : Int) (M : bM) : Option (Int × bM) :=
  if (M 3 0) < 60 then (b_g (0 ≤ (M 3 0) ∧ (M 3 0) < 60) (b_let (b_up M 86 (M 3 0) v1) (fun M3 => b_g (0 ≤ (M3 3 0) ∧ (M3 3 0) < 60) (b_let (b_up M3 87 (M3 3 0) v2) (fun M5 => b_g (0 ≤ (M5 3 0) ∧ (M5 3 0) < 60) (b_let (b_up M5 88 (M5 3 0) (-1)) (fun M7 => b_g (0 ≤ (M7 3 0) ∧ (M7 3 0) < 60) (b_let (b_up M7 91 (M7 3 0) (j_or v3 (j_shl 1 (M7 3 0)))) (fun M9 => b_g (0 ≤ (M9 3 0) ∧ (M9 3 0) < 60) (b_let (b_up M9 92 (M9 3 0) (-1)) (fun M11 => b_g (b_i32 ((M11 3 0) + 1)) (b_let (b_up M11 3 0 ((M11 3 0) + 1)) (fun M13 => b_g (b_i32 ((M13 3 0) - 1)) (some (((M13 3 0) - 1), M13))))))))))))))) else (some ((-3), M))
theorem t_X5_add {l : Launch} {E : bE} {Q : (Int × bM) → Prop} {v1 : Int} {v2 : Int} {v3 : Int} {M : bM} (h : b_wp (F_X5_add v1 v2 v3 M) (Q)) : V l E xX5_add (0, 0) 0 [(0, bR 3), (1, bI v1), (2, bI v2), (3, bJ v3)] [] M (b_pI Q) := by
  unfold F_X5_add at h
  refine v_aload_n (f := 0) 0 rfl dX5_add_0 ?_
  refine v_getI (kf := 0) (kz := 0) rfl kd_3 rfl ⟨by decide, by decide⟩ rfl wf_5_79 dX5_add_1 ?_
  refine v_bipush ⟨by decide, by decide⟩ (by decide) dX5_add_4 ?_
  refine v_icmp_lt (tgt := 12) dX5_add_6 (by decide) (fun c1 => ?_) (fun c1 => ?_)
  · replace h := b_wp_t c1 h
    obtain ⟨g2, h⟩ := b_wp_g h
    refine v_aload_n (f := 0) 0 rfl dX5_add_12 ?_
    refine v_getR (kf := 2) (kz := 2) rfl kd_3 rfl ⟨by decide, by decide⟩ rfl wf_5_23 dX5_add_13 ?_
    refine v_aload_n (f := 0) 0 rfl dX5_add_16 ?_
    refine v_getI (kf := 0) (kz := 0) rfl kd_3 rfl ⟨by decide, by decide⟩ rfl wf_5_79 dX5_add_17 ?_
    refine v_iload_n (f := 1) 1 rfl dX5_add_20 ?_
    refine v_iastore kd_86 g2 (by decide) dX5_add_21 ?_
    replace h := b_wp_l h
    obtain ⟨g4, h⟩ := b_wp_g h
    refine v_aload_n (f := 0) 0 rfl dX5_add_22 ?_
    refine v_getR (kf := 3) (kz := 3) rfl kd_3 rfl ⟨by decide, by decide⟩ rfl wf_5_27 dX5_add_23 ?_
    refine v_aload_n (f := 0) 0 rfl dX5_add_26 ?_
    refine v_getI (kf := 0) (kz := 0) rfl kd_3 rfl ⟨by decide, by decide⟩ rfl wf_5_79 dX5_add_27 ?_
    refine v_iload_n (f := 2) 2 rfl dX5_add_30 ?_
    refine v_iastore kd_87 g4 (by decide) dX5_add_31 ?_
    replace h := b_wp_l h
    obtain ⟨g6, h⟩ := b_wp_g h
    refine v_aload_n (f := 0) 0 rfl dX5_add_32 ?_
    refine v_getR (kf := 4) (kz := 4) rfl kd_3 rfl ⟨by decide, by decide⟩ rfl wf_5_30 dX5_add_33 ?_
    refine v_aload_n (f := 0) 0 rfl dX5_add_36 ?_
    refine v_getI (kf := 0) (kz := 0) rfl kd_3 rfl ⟨by decide, by decide⟩ rfl wf_5_79 dX5_add_37 ?_
    refine v_iconst ⟨by decide, by decide⟩ dX5_add_40 ?_
    refine v_iastore kd_88 g6 (by decide) dX5_add_41 ?_
    replace h := b_wp_l h
    obtain ⟨g8, h⟩ := b_wp_g h
    refine v_aload_n (f := 0) 0 rfl dX5_add_42 ?_
    refine v_getR (kf := 7) (kz := 7) rfl kd_3 rfl ⟨by decide, by decide⟩ rfl wf_5_39 dX5_add_43 ?_
    refine v_aload_n (f := 0) 0 rfl dX5_add_46 ?_
    refine v_getI (kf := 0) (kz := 0) rfl kd_3 rfl ⟨by decide, by decide⟩ rfl wf_5_79 dX5_add_47 ?_
    refine v_lload_n (f := 3) 3 rfl dX5_add_50 ?_
    refine v_lconst1 dX5_add_51 ?_
    refine v_aload_n (f := 0) 0 rfl dX5_add_52 ?_
    refine v_getI (kf := 0) (kz := 0) rfl kd_3 rfl ⟨by decide, by decide⟩ rfl wf_5_79 dX5_add_53 ?_
    refine v_lshl (v := j_shl _ _) rfl dX5_add_56 ?_
    refine v_lor (v := j_or _ _) rfl dX5_add_57 ?_
    refine v_lastore kd_91 g8 (by decide) dX5_add_58 ?_
    replace h := b_wp_l h
    obtain ⟨g10, h⟩ := b_wp_g h
    refine v_aload_n (f := 0) 0 rfl dX5_add_59 ?_
    refine v_getR (kf := 8) (kz := 8) rfl kd_3 rfl ⟨by decide, by decide⟩ rfl wf_5_42 dX5_add_60 ?_
    refine v_aload_n (f := 0) 0 rfl dX5_add_63 ?_
    refine v_getI (kf := 0) (kz := 0) rfl kd_3 rfl ⟨by decide, by decide⟩ rfl wf_5_79 dX5_add_64 ?_
    refine v_iconst ⟨by decide, by decide⟩ dX5_add_67 ?_
    refine v_iastore kd_92 g10 (by decide) dX5_add_68 ?_
    replace h := b_wp_l h
    obtain ⟨g12, h⟩ := b_wp_g h
    refine v_aload_n (f := 0) 0 rfl dX5_add_69 ?_
    refine v_dup rfl dX5_add_70 ?_
    refine v_getI (kf := 0) (kz := 0) rfl kd_3 rfl ⟨by decide, by decide⟩ rfl wf_5_79 dX5_add_71 ?_
    refine v_iconst ⟨by decide, by decide⟩ dX5_add_74 ?_
    refine v_iaddN g12 dX5_add_75 ?_
    refine v_putI (kf := 0) (kz := 0) rfl kd_3 rfl ⟨by decide, by decide⟩ rfl wf_5_79 rfl rfl dX5_add_76 ?_
    replace h := b_wp_l h
    obtain ⟨g14, h⟩ := b_wp_g h
    refine v_aload_n (f := 0) 0 rfl dX5_add_79 ?_
    refine v_getI (kf := 0) (kz := 0) rfl kd_3 rfl ⟨by decide, by decide⟩ rfl wf_5_79 dX5_add_80 ?_
    refine v_iconst ⟨by decide, by decide⟩ dX5_add_83 ?_
    refine v_isubN g14 dX5_add_84 ?_
    refine v_ireturn rfl dX5_add_85 ⟨by decide, by decide⟩ ?_
    exact ⟨_, rfl, h⟩
  · replace h := b_wp_f c1 h
    refine v_bipush ⟨by decide, by decide⟩ (by decide) dX5_add_9 ?_
    refine v_ireturn rfl dX5_add_11 ⟨by decide, by decide⟩ ?_
    exact ⟨_, rfl, h⟩
theorem cf_X5_add {l : Launch} {E : bE} {M : bM} {v1 : Int} {v2 : Int} {v3 : Int} {Q : (Int × bM) → Prop} (h : b_wp (F_X5_add v1 v2 v3 M) Q) : b_C l E xX5_add yX5_add [bR 3, bI v1, bI v2, bJ v3] M (b_pI Q) := b_met (by decide) ⟨rfl, rfl⟩ (Nat.le_of_ble_eq_true rfl) (fun _ _ => t_X5_add h)
abbrev xX11_lot : bX := ("BurntHall", prog_1_method_14_code, 3, (Option.some Jvm.ClassFile.FieldType.int), b_rm 2 0 0, 0, "lot")
abbrev yX11_lot : MethodName := ⟨"BurntHall", "lot", "(II)I"⟩
theorem dX11_lot_0 : decode prog_1_method_14_code 0 = .ok (.iload_n 1, 1) := by decide +kernel
theorem dX11_lot_1 : decode prog_1_method_14_code 1 = .ok (.invokestatic 136, 3) := by decide +kernel
theorem dX11_lot_4 : decode prog_1_method_14_code 4 = .ok (.ifCond .eq 10, 3) := by decide +kernel
theorem dX11_lot_7 : decode prog_1_method_14_code 7 = .ok (.iload_n 2, 1) := by decide +kernel
theorem dX11_lot_8 : decode prog_1_method_14_code 8 = .ok (.invokestatic 102, 3) := by decide +kernel
theorem dX11_lot_11 : decode prog_1_method_14_code 11 = .ok (.ifCond .ne 6, 3) := by decide +kernel
theorem dX11_lot_14 : decode prog_1_method_14_code 14 = .ok (.bipush (-2), 2) := by decide +kernel
theorem dX11_lot_16 : decode prog_1_method_14_code 16 = .ok (.ireturn, 1) := by decide +kernel
theorem dX11_lot_17 : decode prog_1_method_14_code 17 = .ok (.aload_n 0, 1) := by decide +kernel
theorem dX11_lot_18 : decode prog_1_method_14_code 18 = .ok (.getfield 26, 3) := by decide +kernel
theorem dX11_lot_21 : decode prog_1_method_14_code 21 = .ok (.invokevirtual 139, 3) := by decide +kernel
theorem dX11_lot_24 : decode prog_1_method_14_code 24 = .ok (.iconst 1, 1) := by decide +kernel
theorem dX11_lot_25 : decode prog_1_method_14_code 25 = .ok (.if_icmp .ge 8, 3) := by decide +kernel
theorem dX11_lot_28 : decode prog_1_method_14_code 28 = .ok (.bipush (-3), 2) := by decide +kernel
theorem dX11_lot_30 : decode prog_1_method_14_code 30 = .ok (.goto 13, 3) := by decide +kernel
theorem dX11_lot_33 : decode prog_1_method_14_code 33 = .ok (.aload_n 0, 1) := by decide +kernel
theorem dX11_lot_34 : decode prog_1_method_14_code 34 = .ok (.getfield 26, 3) := by decide +kernel
theorem dX11_lot_37 : decode prog_1_method_14_code 37 = .ok (.iload_n 1, 1) := by decide +kernel
theorem dX11_lot_38 : decode prog_1_method_14_code 38 = .ok (.iload_n 2, 1) := by decide +kernel
theorem dX11_lot_39 : decode prog_1_method_14_code 39 = .ok (.lconst 0, 1) := by decide +kernel
theorem dX11_lot_40 : decode prog_1_method_14_code 40 = .ok (.invokevirtual 143, 3) := by decide +kernel
theorem dX11_lot_43 : decode prog_1_method_14_code 43 = .ok (.ireturn, 1) := by decide +kernel
noncomputable def F_X11_lot (v1 : Int) (v2 : Int) (M : bM) : Option (Int × bM) :=
  b_bind (F_X5_isFeet v1 M) (fun x1 => if x1 = 0 then (some ((-2), M)) else (b_bind (F_X11_isDay v2 M) (fun x3 => if x3 = 0 then (some ((-2), M)) else (b_bind (F_X5_room M) (fun x5 => if 1 ≤ x5 then (b_bind (F_X5_add v1 v2 0 M) (fun t => b_two t (fun x7 M8 => some (x7, M8)))) else (some ((-3), M)))))))
theorem t_X11_lot {l : Launch} {E : bE} {Q : (Int × bM) → Prop} {v1 : Int} {v2 : Int} {M : bM} (h : b_wp (F_X11_lot v1 v2 M) (Q)) : V l E xX11_lot (0, 0) 0 [(0, bR 0), (1, bI v1), (2, bI v2)] [] M (b_pI Q) := by
  unfold F_X11_lot at h
  refine v_iload_n (f := 1) 1 rfl dX11_lot_0 ?_
  refine v_cSIp (nA := 1) (As := [bI _]) (ix := 136) (cf_X5_isFeet (b_wp_b h)) rfl wc_X5_isFeet wm_11_136 wi_X5_isFeet wn_5 ⟨by decide, by decide, by decide⟩ rfl ⟨by decide, by decide⟩ ⟨by decide, by decide⟩ (Nat.le_of_ble_eq_true rfl) dX11_lot_1 (fun x1 h => ?_)
  refine v_if_eq (tgt := 14) dX11_lot_4 (by decide) (fun c2 => ?_) (fun c2 => ?_)
  · replace h := b_wp_t c2 h
    refine v_bipush ⟨by decide, by decide⟩ (by decide) dX11_lot_14 ?_
    refine v_ireturn rfl dX11_lot_16 ⟨by decide, by decide⟩ ?_
    exact ⟨_, rfl, h⟩
  · replace h := b_wp_f c2 h
    refine v_iload_n (f := 2) 2 rfl dX11_lot_7 ?_
    refine v_cSIp (nA := 1) (As := [bI _]) (ix := 102) (cf_X11_isDay (b_wp_b h)) rfl wc_X11_isDay wm_11_102 wi_X11_isDay wn_11 ⟨by decide, by decide, by decide⟩ rfl ⟨by decide, by decide⟩ ⟨by decide, by decide⟩ (Nat.le_of_ble_eq_true rfl) dX11_lot_8 (fun x3 h => ?_)
    refine v_if_ne (tgt := 17) dX11_lot_11 (by decide) (fun c4 => ?_) (fun c4 => ?_)
    · replace h := b_wp_f c4 h
      refine v_aload_n (f := 0) 0 rfl dX11_lot_17 ?_
      refine v_getR (kf := 2) (kz := 2) rfl kd_0 rfl ⟨by decide, by decide⟩ rfl wf_11_26 dX11_lot_18 ?_
      refine v_cVIp (nA := 0) (As := []) (ix := 139) (cf_X5_room (b_wp_b h)) rfl kd_3 rfl rfl wc_X5_room wm_11_139 wi_X5_room ws_X5_room wn_5 ⟨by decide, by decide, by decide⟩ rfl ⟨by decide, by decide⟩ ⟨by decide, by decide⟩ (Nat.le_of_ble_eq_true rfl) dX11_lot_21 (fun x5 h => ?_)
      refine v_iconst ⟨by decide, by decide⟩ dX11_lot_24 ?_
      refine v_icmp_ge (tgt := 33) dX11_lot_25 (by decide) (fun c6 => ?_) (fun c6 => ?_)
      · replace h := b_wp_t c6 h
        refine v_aload_n (f := 0) 0 rfl dX11_lot_33 ?_
        refine v_getR (kf := 2) (kz := 2) rfl kd_0 rfl ⟨by decide, by decide⟩ rfl wf_11_26 dX11_lot_34 ?_
        refine v_iload_n (f := 1) 1 rfl dX11_lot_37 ?_
        refine v_iload_n (f := 2) 2 rfl dX11_lot_38 ?_
        refine v_lconst0 dX11_lot_39 ?_
        refine v_cVI (nA := 3) (As := [bI _, bI _, bJ _]) (ix := 143) (cf_X5_add (b_wp_b h)) rfl kd_3 rfl rfl wc_X5_add wm_11_143 wi_X5_add ws_X5_add wn_5 ⟨by decide, by decide, by decide⟩ rfl ⟨by decide, by decide⟩ ⟨by decide, by decide⟩ (Nat.le_of_ble_eq_true rfl) dX11_lot_40 (fun x7 M8 h => ?_)
        replace h := b_wp_two h
        refine v_ireturn rfl dX11_lot_43 ⟨by decide, by decide⟩ ?_
        exact ⟨_, rfl, h⟩
      · replace h := b_wp_f c6 h
        refine v_bipush ⟨by decide, by decide⟩ (by decide) dX11_lot_28 ?_
        refine v_goto (tgt := 43) dX11_lot_30 (by decide) ?_
        refine v_ireturn rfl dX11_lot_43 ⟨by decide, by decide⟩ ?_
        exact ⟨_, rfl, h⟩
    · replace h := b_wp_t c4 h
      refine v_bipush ⟨by decide, by decide⟩ (by decide) dX11_lot_14 ?_
      refine v_ireturn rfl dX11_lot_16 ⟨by decide, by decide⟩ ?_
      exact ⟨_, rfl, h⟩
theorem cf_X11_lot {l : Launch} {E : bE} {M : bM} {v1 : Int} {v2 : Int} {Q : (Int × bM) → Prop} (h : b_wp (F_X11_lot v1 v2 M) Q) : b_C l E xX11_lot yX11_lot [bR 0, bI v1, bI v2] M (b_pI Q) := b_met (by decide) ⟨rfl, rfl⟩ (Nat.le_of_ble_eq_true rfl) (fun _ _ => t_X11_lot h)
abbrev xX5_has : bX := ("BurntHall$Lots", prog_7_method_3_code, 2, (Option.some Jvm.ClassFile.FieldType.boolean), b_rm 1 0 0, 0, "has")
abbrev yX5_has : MethodName := ⟨"BurntHall$Lots", "has", "(I)Z"⟩
theorem dX5_has_0 : decode prog_7_method_3_code 0 = .ok (.iload_n 1, 1) := by decide +kernel
theorem dX5_has_1 : decode prog_7_method_3_code 1 = .ok (.ifCond .lt 15, 3) := by decide +kernel
theorem dX5_has_4 : decode prog_7_method_3_code 4 = .ok (.iload_n 1, 1) := by decide +kernel
theorem dX5_has_5 : decode prog_7_method_3_code 5 = .ok (.aload_n 0, 1) := by decide +kernel
theorem dX5_has_6 : decode prog_7_method_3_code 6 = .ok (.getfield 79, 3) := by decide +kernel
theorem dX5_has_9 : decode prog_7_method_3_code 9 = .ok (.if_icmp .ge 7, 3) := by decide +kernel
theorem dX5_has_12 : decode prog_7_method_3_code 12 = .ok (.iconst 1, 1) := by decide +kernel
theorem dX5_has_13 : decode prog_7_method_3_code 13 = .ok (.goto 4, 3) := by decide +kernel
theorem dX5_has_16 : decode prog_7_method_3_code 16 = .ok (.iconst 0, 1) := by decide +kernel
theorem dX5_has_17 : decode prog_7_method_3_code 17 = .ok (.ireturn, 1) := by decide +kernel
noncomputable def F_X5_has (v1 : Int) (M : bM) : Option (Int) :=
  if v1 < 0 then (some 0) else (if (M 3 0) ≤ v1 then (some 0) else (some 1))
theorem t_X5_has {l : Launch} {E : bE} {Q : Int → Prop} {v1 : Int} {M : bM} (h : b_wp (F_X5_has v1 M) (Q)) : V l E xX5_has (0, 0) 0 [(0, bR 3), (1, bI v1)] [] M (b_pIp M Q) := by
  unfold F_X5_has at h
  refine v_iload_n (f := 1) 1 rfl dX5_has_0 ?_
  refine v_if_lt (tgt := 16) dX5_has_1 (by decide) (fun c1 => ?_) (fun c1 => ?_)
  · replace h := b_wp_t c1 h
    refine v_iconst ⟨by decide, by decide⟩ dX5_has_16 ?_
    refine v_zreturn rfl (Or.inl rfl) dX5_has_17 ⟨by decide, by decide⟩ ?_
    exact ⟨_, rfl, rfl, h⟩
  · replace h := b_wp_f c1 h
    refine v_iload_n (f := 1) 1 rfl dX5_has_4 ?_
    refine v_aload_n (f := 0) 0 rfl dX5_has_5 ?_
    refine v_getI (kf := 0) (kz := 0) rfl kd_3 rfl ⟨by decide, by decide⟩ rfl wf_5_79 dX5_has_6 ?_
    refine v_icmp_ge (tgt := 16) dX5_has_9 (by decide) (fun c2 => ?_) (fun c2 => ?_)
    · replace h := b_wp_t c2 h
      refine v_iconst ⟨by decide, by decide⟩ dX5_has_16 ?_
      refine v_zreturn rfl (Or.inl rfl) dX5_has_17 ⟨by decide, by decide⟩ ?_
      exact ⟨_, rfl, rfl, h⟩
    · replace h := b_wp_f c2 h
      refine v_iconst ⟨by decide, by decide⟩ dX5_has_12 ?_
      refine v_goto (tgt := 17) dX5_has_13 (by decide) ?_
      refine v_zreturn rfl (Or.inr rfl) dX5_has_17 ⟨by decide, by decide⟩ ?_
      exact ⟨_, rfl, rfl, h⟩
theorem cf_X5_has {l : Launch} {E : bE} {M : bM} {v1 : Int} {Q : Int → Prop} (h : b_wp (F_X5_has v1 M) Q) : b_C l E xX5_has yX5_has [bR 3, bI v1] M (b_pIp M Q) := b_met (by decide) ⟨rfl, rfl⟩ (Nat.le_of_ble_eq_true rfl) (fun _ _ => t_X5_has h)
abbrev xX5_four : bX := ("BurntHall$Lots", prog_7_method_6_code, 5, (Option.none : Option Jvm.ClassFile.FieldType), b_rm 1 0 0, 0, "four")
abbrev yX5_four : MethodName := ⟨"BurntHall$Lots", "four", "(IIII)V"⟩
theorem dX5_four_0 : decode prog_7_method_6_code 0 = .ok (.aload_n 0, 1) := by decide +kernel
theorem dX5_four_1 : decode prog_7_method_6_code 1 = .ok (.getfield 63, 3) := by decide +kernel
theorem dX5_four_4 : decode prog_7_method_6_code 4 = .ok (.iconst 0, 1) := by decide +kernel
theorem dX5_four_5 : decode prog_7_method_6_code 5 = .ok (.iload_n 1, 1) := by decide +kernel
theorem dX5_four_6 : decode prog_7_method_6_code 6 = .ok (.iastore, 1) := by decide +kernel
theorem dX5_four_7 : decode prog_7_method_6_code 7 = .ok (.aload_n 0, 1) := by decide +kernel
theorem dX5_four_8 : decode prog_7_method_6_code 8 = .ok (.getfield 63, 3) := by decide +kernel
theorem dX5_four_11 : decode prog_7_method_6_code 11 = .ok (.iconst 1, 1) := by decide +kernel
theorem dX5_four_12 : decode prog_7_method_6_code 12 = .ok (.iload_n 2, 1) := by decide +kernel
theorem dX5_four_13 : decode prog_7_method_6_code 13 = .ok (.iastore, 1) := by decide +kernel
theorem dX5_four_14 : decode prog_7_method_6_code 14 = .ok (.aload_n 0, 1) := by decide +kernel
theorem dX5_four_15 : decode prog_7_method_6_code 15 = .ok (.getfield 63, 3) := by decide +kernel
theorem dX5_four_18 : decode prog_7_method_6_code 18 = .ok (.iconst 2, 1) := by decide +kernel
theorem dX5_four_19 : decode prog_7_method_6_code 19 = .ok (.iload_n 3, 1) := by decide +kernel
theorem dX5_four_20 : decode prog_7_method_6_code 20 = .ok (.iastore, 1) := by decide +kernel
theorem dX5_four_21 : decode prog_7_method_6_code 21 = .ok (.aload_n 0, 1) := by decide +kernel
theorem dX5_four_22 : decode prog_7_method_6_code 22 = .ok (.getfield 63, 3) := by decide +kernel
theorem dX5_four_25 : decode prog_7_method_6_code 25 = .ok (.iconst 3, 1) := by decide +kernel
theorem dX5_four_26 : decode prog_7_method_6_code 26 = .ok (.iload 4, 2) := by decide +kernel
theorem dX5_four_28 : decode prog_7_method_6_code 28 = .ok (.iastore, 1) := by decide +kernel
theorem dX5_four_29 : decode prog_7_method_6_code 29 = .ok (.return_, 1) := by decide +kernel
noncomputable def F_X5_four (v1 : Int) (v2 : Int) (v3 : Int) (v4 : Int) (M : bM) : Option (bM) :=
  b_let (b_up M 99 0 v1) (fun M1 => b_let (b_up M1 99 1 v2) (fun M2 => b_let (b_up M2 99 2 v3) (fun M3 => b_let (b_up M3 99 3 v4) (fun M4 => some M4))))
theorem t_X5_four {l : Launch} {E : bE} {Q : bM → Prop} {v1 : Int} {v2 : Int} {v3 : Int} {v4 : Int} {M : bM} (h : b_wp (F_X5_four v1 v2 v3 v4 M) (Q)) : V l E xX5_four (0, 0) 0 [(0, bR 3), (1, bI v1), (2, bI v2), (3, bI v3), (4, bI v4)] [] M (b_pV Q) := by
  unfold F_X5_four at h
  refine v_aload_n (f := 0) 0 rfl dX5_four_0 ?_
  refine v_getR (kf := 15) (kz := 15) rfl kd_3 rfl ⟨by decide, by decide⟩ rfl wf_5_63 dX5_four_1 ?_
  refine v_iconst ⟨by decide, by decide⟩ dX5_four_4 ?_
  refine v_iload_n (f := 1) 1 rfl dX5_four_5 ?_
  refine v_iastore kd_99 ⟨by decide, by decide⟩ (by decide) dX5_four_6 ?_
  replace h := b_wp_l h
  refine v_aload_n (f := 0) 0 rfl dX5_four_7 ?_
  refine v_getR (kf := 15) (kz := 15) rfl kd_3 rfl ⟨by decide, by decide⟩ rfl wf_5_63 dX5_four_8 ?_
  refine v_iconst ⟨by decide, by decide⟩ dX5_four_11 ?_
  refine v_iload_n (f := 2) 2 rfl dX5_four_12 ?_
  refine v_iastore kd_99 ⟨by decide, by decide⟩ (by decide) dX5_four_13 ?_
  replace h := b_wp_l h
  refine v_aload_n (f := 0) 0 rfl dX5_four_14 ?_
  refine v_getR (kf := 15) (kz := 15) rfl kd_3 rfl ⟨by decide, by decide⟩ rfl wf_5_63 dX5_four_15 ?_
  refine v_iconst ⟨by decide, by decide⟩ dX5_four_18 ?_
  refine v_iload_n (f := 3) 3 rfl dX5_four_19 ?_
  refine v_iastore kd_99 ⟨by decide, by decide⟩ (by decide) dX5_four_20 ?_
  replace h := b_wp_l h
  refine v_aload_n (f := 0) 0 rfl dX5_four_21 ?_
  refine v_getR (kf := 15) (kz := 15) rfl kd_3 rfl ⟨by decide, by decide⟩ rfl wf_5_63 dX5_four_22 ?_
  refine v_iconst ⟨by decide, by decide⟩ dX5_four_25 ?_
  refine v_iload (i := 4) 4 rfl dX5_four_26 ?_
  refine v_iastore kd_99 ⟨by decide, by decide⟩ (by decide) dX5_four_28 ?_
  replace h := b_wp_l h
  refine v_return rfl dX5_four_29 ⟨by decide, by decide⟩ ?_
  exact ⟨rfl, h⟩
theorem cf_X5_four {l : Launch} {E : bE} {M : bM} {v1 : Int} {v2 : Int} {v3 : Int} {v4 : Int} {Q : bM → Prop} (h : b_wp (F_X5_four v1 v2 v3 v4 M) Q) : b_C l E xX5_four yX5_four [bR 3, bI v1, bI v2, bI v3, bI v4] M (b_pV Q) := b_met (by decide) ⟨rfl, rfl⟩ (Nat.le_of_ble_eq_true rfl) (fun _ _ => t_X5_four h)
abbrev xX5_fourAreFeet : bX := ("BurntHall$Lots", prog_7_method_7_code, 3, (Option.some Jvm.ClassFile.FieldType.boolean), b_rm 2 0 0, 0, "fourAreFeet")
abbrev yX5_fourAreFeet : MethodName := ⟨"BurntHall$Lots", "fourAreFeet", "(I)Z"⟩
theorem dX5_fourAreFeet_0 : decode prog_7_method_7_code 0 = .ok (.iconst 0, 1) := by decide +kernel
theorem dX5_fourAreFeet_1 : decode prog_7_method_7_code 1 = .ok (.istore_n 2, 1) := by decide +kernel
theorem dX5_fourAreFeet_2 : decode prog_7_method_7_code 2 = .ok (.iload_n 2, 1) := by decide +kernel
theorem dX5_fourAreFeet_3 : decode prog_7_method_7_code 3 = .ok (.iload_n 1, 1) := by decide +kernel
theorem dX5_fourAreFeet_4 : decode prog_7_method_7_code 4 = .ok (.if_icmp .ge 28, 3) := by decide +kernel
theorem dX5_fourAreFeet_7 : decode prog_7_method_7_code 7 = .ok (.iload_n 2, 1) := by decide +kernel
theorem dX5_fourAreFeet_8 : decode prog_7_method_7_code 8 = .ok (.iconst 4, 1) := by decide +kernel
theorem dX5_fourAreFeet_9 : decode prog_7_method_7_code 9 = .ok (.if_icmp .ge 23, 3) := by decide +kernel
theorem dX5_fourAreFeet_12 : decode prog_7_method_7_code 12 = .ok (.aload_n 0, 1) := by decide +kernel
theorem dX5_fourAreFeet_13 : decode prog_7_method_7_code 13 = .ok (.getfield 63, 3) := by decide +kernel
theorem dX5_fourAreFeet_16 : decode prog_7_method_7_code 16 = .ok (.iload_n 2, 1) := by decide +kernel
theorem dX5_fourAreFeet_17 : decode prog_7_method_7_code 17 = .ok (.iaload, 1) := by decide +kernel
theorem dX5_fourAreFeet_18 : decode prog_7_method_7_code 18 = .ok (.invokestatic 83, 3) := by decide +kernel
theorem dX5_fourAreFeet_21 : decode prog_7_method_7_code 21 = .ok (.ifCond .ne 5, 3) := by decide +kernel
theorem dX5_fourAreFeet_24 : decode prog_7_method_7_code 24 = .ok (.iconst 0, 1) := by decide +kernel
theorem dX5_fourAreFeet_25 : decode prog_7_method_7_code 25 = .ok (.ireturn, 1) := by decide +kernel
theorem dX5_fourAreFeet_26 : decode prog_7_method_7_code 26 = .ok (.iinc 2 1, 3) := by decide +kernel
theorem dX5_fourAreFeet_29 : decode prog_7_method_7_code 29 = .ok (.goto (-27), 3) := by decide +kernel
theorem dX5_fourAreFeet_32 : decode prog_7_method_7_code 32 = .ok (.iconst 1, 1) := by decide +kernel
theorem dX5_fourAreFeet_33 : decode prog_7_method_7_code 33 = .ok (.ireturn, 1) := by decide +kernel
abbrev A_X5_fourAreFeet_2 (l : Launch) (E : bE) (Q : Int → Prop) (v1 : Int) (M : bM) : (Int) → Prop := (fun t : Int => V l E xX5_fourAreFeet (0, 0) 2 [(0, bR 3), (1, bI v1), (2, bI t)] [] M (b_pIp M Q))
abbrev X_X5_fourAreFeet_2 (l : Launch) (E : bE) (Q : Int → Prop) (v1 : Int) (M : bM) : ((Unit) ⊕ Int) → Prop := (Sum.elim (fun t : Unit => V l E xX5_fourAreFeet (0, 0) 32 [] [] M (b_pIp M Q)) Q)
noncomputable def F_X5_fourAreFeet_s2 (v1 : Int) (v2 : Int) (M : bM) : Option ((Int) ⊕ ((Unit) ⊕ Int)) :=
  if v1 ≤ v2 then (some (.inr (.inl ()))) else (if 4 ≤ v2 then (some (.inr (.inl ()))) else (b_g (0 ≤ v2 ∧ v2 < 4) (b_bind (F_X5_isFeet (M 99 v2) M) (fun x4 => if x4 = 0 then (some (.inr (.inr 0))) else (b_g (b_i32 (v2 + 1)) (some (.inl ((v2 + 1)))))))))
theorem t_X5_fourAreFeet_s2 {l : Launch} {E : bE} {Q : Int → Prop} {v1 : Int} {v2 : Int} {M : bM} (h : b_wp (F_X5_fourAreFeet_s2 v1 v2 M) (Sum.elim (A_X5_fourAreFeet_2 l E Q v1 M) (X_X5_fourAreFeet_2 l E Q v1 M))) : V l E xX5_fourAreFeet (0, 0) 2 [(0, bR 3), (1, bI v1), (2, bI v2)] [] M (b_pIp M Q) := by
  unfold F_X5_fourAreFeet_s2 at h
  refine v_iload_n (f := 2) 2 rfl dX5_fourAreFeet_2 ?_
  refine v_iload_n (f := 1) 1 rfl dX5_fourAreFeet_3 ?_
  refine v_icmp_ge (tgt := 32) dX5_fourAreFeet_4 (by decide) (fun c1 => ?_) (fun c1 => ?_)
  · replace h := b_wp_t c1 h
    refine v_sub (ls2 := []) [] rfl ?_
    exact h
  · replace h := b_wp_f c1 h
    refine v_iload_n (f := 2) 2 rfl dX5_fourAreFeet_7 ?_
    refine v_iconst ⟨by decide, by decide⟩ dX5_fourAreFeet_8 ?_
    refine v_icmp_ge (tgt := 32) dX5_fourAreFeet_9 (by decide) (fun c2 => ?_) (fun c2 => ?_)
    · replace h := b_wp_t c2 h
      refine v_sub (ls2 := []) [] rfl ?_
      exact h
    · replace h := b_wp_f c2 h
      obtain ⟨g3, h⟩ := b_wp_g h
      refine v_aload_n (f := 0) 0 rfl dX5_fourAreFeet_12 ?_
      refine v_getR (kf := 15) (kz := 15) rfl kd_3 rfl ⟨by decide, by decide⟩ rfl wf_5_63 dX5_fourAreFeet_13 ?_
      refine v_iload_n (f := 2) 2 rfl dX5_fourAreFeet_16 ?_
      refine v_iaload kd_99 g3 (by decide) dX5_fourAreFeet_17 ?_
      refine v_cSIp (nA := 1) (As := [bI _]) (ix := 83) (cf_X5_isFeet (b_wp_b h)) rfl wc_X5_isFeet wm_5_83 wi_X5_isFeet wn_5 ⟨by decide, by decide, by decide⟩ rfl ⟨by decide, by decide⟩ ⟨by decide, by decide⟩ (Nat.le_of_ble_eq_true rfl) dX5_fourAreFeet_18 (fun x4 h => ?_)
      refine v_if_ne (tgt := 26) dX5_fourAreFeet_21 (by decide) (fun c5 => ?_) (fun c5 => ?_)
      · replace h := b_wp_f c5 h
        obtain ⟨g6, h⟩ := b_wp_g h
        refine v_iincN (ls' := [(2, bI _), (0, bR _), (1, bI _)]) 2 rfl (by decide) g6 dX5_fourAreFeet_26 rfl ?_
        refine v_goto (tgt := 2) dX5_fourAreFeet_29 (by decide) ?_
        refine v_sub (ls2 := [(0, bR _), (1, bI _), (2, bI _)]) [1, 2, 0] rfl ?_
        exact h
      · replace h := b_wp_t c5 h
        refine v_iconst ⟨by decide, by decide⟩ dX5_fourAreFeet_24 ?_
        refine v_zreturn rfl (Or.inl rfl) dX5_fourAreFeet_25 ⟨by decide, by decide⟩ ?_
        exact ⟨_, rfl, rfl, h⟩
theorem l_X5_fourAreFeet_2 {l : Launch} {E : bE} {Q : Int → Prop} {v1 : Int} {M : bM} {s : Int} (h : b_wp (b_loop (fun t => F_X5_fourAreFeet_s2 v1 t M) s) (X_X5_fourAreFeet_2 l E Q v1 M)) : A_X5_fourAreFeet_2 l E Q v1 M s := b_loop_wp (fun t h => t_X5_fourAreFeet_s2 h) s h
noncomputable def F_X5_fourAreFeet_b32 (M : bM) : Option (Int) :=
  some 1
theorem t_X5_fourAreFeet_b32 {l : Launch} {E : bE} {Q : Int → Prop} {M : bM} (h : b_wp (F_X5_fourAreFeet_b32 M) (Q)) : V l E xX5_fourAreFeet (0, 0) 32 [] [] M (b_pIp M Q) := by
  unfold F_X5_fourAreFeet_b32 at h
  refine v_iconst ⟨by decide, by decide⟩ dX5_fourAreFeet_32 ?_
  refine v_zreturn rfl (Or.inr rfl) dX5_fourAreFeet_33 ⟨by decide, by decide⟩ ?_
  exact ⟨_, rfl, rfl, h⟩
noncomputable def F_X5_fourAreFeet (v1 : Int) (M : bM) : Option (Int) :=
  b_bind (b_loop (fun t => F_X5_fourAreFeet_s2 v1 t M) (0)) (Sum.elim (fun t => F_X5_fourAreFeet_b32 M) some)
theorem t_X5_fourAreFeet {l : Launch} {E : bE} {Q : Int → Prop} {v1 : Int} {M : bM} (h : b_wp (F_X5_fourAreFeet v1 M) (Q)) : V l E xX5_fourAreFeet (0, 0) 0 [(0, bR 3), (1, bI v1)] [] M (b_pIp M Q) := by
  unfold F_X5_fourAreFeet at h
  refine v_iconst ⟨by decide, by decide⟩ dX5_fourAreFeet_0 ?_
  refine v_istore_n (g := 2) (i := 2) (ls' := [(2, bI _), (0, bR _), (1, bI _)]) rfl (by decide) dX5_fourAreFeet_1 rfl ?_
  refine v_sub (ls2 := [(0, bR _), (1, bI _), (2, bI _)]) [1, 2, 0] rfl ?_
  refine l_X5_fourAreFeet_2 (b_wp_m (fun t h => ?_) (b_wp_b h))
  cases t with
  | inr o => exact h
  | inl t =>
    show V l E xX5_fourAreFeet (0, 0) 32 [] [] _ (b_pIp M Q)
    replace h := b_wp_inl h
    exact t_X5_fourAreFeet_b32 h
theorem cf_X5_fourAreFeet {l : Launch} {E : bE} {M : bM} {v1 : Int} {Q : Int → Prop} (h : b_wp (F_X5_fourAreFeet v1 M) Q) : b_C l E xX5_fourAreFeet yX5_fourAreFeet [bR 3, bI v1] M (b_pIp M Q) := b_met (by decide) ⟨rfl, rfl⟩ (Nat.le_of_ble_eq_true rfl) (fun _ _ => t_X5_fourAreFeet h)
abbrev xX5_mayEnd : bX := ("BurntHall$Lots", prog_7_method_10_code, 3, (Option.some Jvm.ClassFile.FieldType.boolean), b_rm 2 0 0, 0, "mayEnd")
abbrev yX5_mayEnd : MethodName := ⟨"BurntHall$Lots", "mayEnd", "(II)Z"⟩
theorem dX5_mayEnd_0 : decode prog_7_method_10_code 0 = .ok (.aload_n 0, 1) := by decide +kernel
theorem dX5_mayEnd_1 : decode prog_7_method_10_code 1 = .ok (.iload_n 1, 1) := by decide +kernel
theorem dX5_mayEnd_2 : decode prog_7_method_10_code 2 = .ok (.invokevirtual 87, 3) := by decide +kernel
theorem dX5_mayEnd_5 : decode prog_7_method_10_code 5 = .ok (.ifCond .eq 27, 3) := by decide +kernel
theorem dX5_mayEnd_8 : decode prog_7_method_10_code 8 = .ok (.aload_n 0, 1) := by decide +kernel
theorem dX5_mayEnd_9 : decode prog_7_method_10_code 9 = .ok (.getfield 30, 3) := by decide +kernel
theorem dX5_mayEnd_12 : decode prog_7_method_10_code 12 = .ok (.iload_n 1, 1) := by decide +kernel
theorem dX5_mayEnd_13 : decode prog_7_method_10_code 13 = .ok (.iaload, 1) := by decide +kernel
theorem dX5_mayEnd_14 : decode prog_7_method_10_code 14 = .ok (.iconst (-1), 1) := by decide +kernel
theorem dX5_mayEnd_15 : decode prog_7_method_10_code 15 = .ok (.if_icmp .ne 17, 3) := by decide +kernel
theorem dX5_mayEnd_18 : decode prog_7_method_10_code 18 = .ok (.aload_n 0, 1) := by decide +kernel
theorem dX5_mayEnd_19 : decode prog_7_method_10_code 19 = .ok (.getfield 27, 3) := by decide +kernel
theorem dX5_mayEnd_22 : decode prog_7_method_10_code 22 = .ok (.iload_n 1, 1) := by decide +kernel
theorem dX5_mayEnd_23 : decode prog_7_method_10_code 23 = .ok (.iaload, 1) := by decide +kernel
theorem dX5_mayEnd_24 : decode prog_7_method_10_code 24 = .ok (.iload_n 2, 1) := by decide +kernel
theorem dX5_mayEnd_25 : decode prog_7_method_10_code 25 = .ok (.if_icmp .gt 7, 3) := by decide +kernel
theorem dX5_mayEnd_28 : decode prog_7_method_10_code 28 = .ok (.iconst 1, 1) := by decide +kernel
theorem dX5_mayEnd_29 : decode prog_7_method_10_code 29 = .ok (.goto 4, 3) := by decide +kernel
theorem dX5_mayEnd_32 : decode prog_7_method_10_code 32 = .ok (.iconst 0, 1) := by decide +kernel
theorem dX5_mayEnd_33 : decode prog_7_method_10_code 33 = .ok (.ireturn, 1) := by decide +kernel
noncomputable def F_X5_mayEnd (v1 : Int) (v2 : Int) (M : bM) : Option (Int) :=
  b_bind (F_X5_has v1 M) (fun x1 => if x1 = 0 then (some 0) else (b_g (0 ≤ v1 ∧ v1 < 60) (if (M 88 v1) = (-1) then (b_g (0 ≤ v1 ∧ v1 < 60) (if v2 < (M 87 v1) then (some 0) else (some 1))) else (some 0))))
theorem t_X5_mayEnd {l : Launch} {E : bE} {Q : Int → Prop} {v1 : Int} {v2 : Int} {M : bM} (h : b_wp (F_X5_mayEnd v1 v2 M) (Q)) : V l E xX5_mayEnd (0, 0) 0 [(0, bR 3), (1, bI v1), (2, bI v2)] [] M (b_pIp M Q) := by
  unfold F_X5_mayEnd at h
  refine v_aload_n (f := 0) 0 rfl dX5_mayEnd_0 ?_
  refine v_iload_n (f := 1) 1 rfl dX5_mayEnd_1 ?_
  refine v_cVIp (nA := 1) (As := [bI _]) (ix := 87) (cf_X5_has (b_wp_b h)) rfl kd_3 rfl rfl wc_X5_has wm_5_87 wi_X5_has ws_X5_has wn_5 ⟨by decide, by decide, by decide⟩ rfl ⟨by decide, by decide⟩ ⟨by decide, by decide⟩ (Nat.le_of_ble_eq_true rfl) dX5_mayEnd_2 (fun x1 h => ?_)
  refine v_if_eq (tgt := 32) dX5_mayEnd_5 (by decide) (fun c2 => ?_) (fun c2 => ?_)
  · replace h := b_wp_t c2 h
    refine v_iconst ⟨by decide, by decide⟩ dX5_mayEnd_32 ?_
    refine v_zreturn rfl (Or.inl rfl) dX5_mayEnd_33 ⟨by decide, by decide⟩ ?_
    exact ⟨_, rfl, rfl, h⟩
  · replace h := b_wp_f c2 h
    obtain ⟨g3, h⟩ := b_wp_g h
    refine v_aload_n (f := 0) 0 rfl dX5_mayEnd_8 ?_
    refine v_getR (kf := 4) (kz := 4) rfl kd_3 rfl ⟨by decide, by decide⟩ rfl wf_5_30 dX5_mayEnd_9 ?_
    refine v_iload_n (f := 1) 1 rfl dX5_mayEnd_12 ?_
    refine v_iaload kd_88 g3 (by decide) dX5_mayEnd_13 ?_
    refine v_iconst ⟨by decide, by decide⟩ dX5_mayEnd_14 ?_
    refine v_icmp_ne (tgt := 32) dX5_mayEnd_15 (by decide) (fun c4 => ?_) (fun c4 => ?_)
    · replace h := b_wp_f c4 h
      refine v_iconst ⟨by decide, by decide⟩ dX5_mayEnd_32 ?_
      refine v_zreturn rfl (Or.inl rfl) dX5_mayEnd_33 ⟨by decide, by decide⟩ ?_
      exact ⟨_, rfl, rfl, h⟩
    · replace h := b_wp_t c4 h
      obtain ⟨g5, h⟩ := b_wp_g h
      refine v_aload_n (f := 0) 0 rfl dX5_mayEnd_18 ?_
      refine v_getR (kf := 3) (kz := 3) rfl kd_3 rfl ⟨by decide, by decide⟩ rfl wf_5_27 dX5_mayEnd_19 ?_
      refine v_iload_n (f := 1) 1 rfl dX5_mayEnd_22 ?_
      refine v_iaload kd_87 g5 (by decide) dX5_mayEnd_23 ?_
      refine v_iload_n (f := 2) 2 rfl dX5_mayEnd_24 ?_
      refine v_icmp_gt (tgt := 32) dX5_mayEnd_25 (by decide) (fun c6 => ?_) (fun c6 => ?_)
      · replace h := b_wp_t c6 h
        refine v_iconst ⟨by decide, by decide⟩ dX5_mayEnd_32 ?_
        refine v_zreturn rfl (Or.inl rfl) dX5_mayEnd_33 ⟨by decide, by decide⟩ ?_
        exact ⟨_, rfl, rfl, h⟩
      · replace h := b_wp_f c6 h
        refine v_iconst ⟨by decide, by decide⟩ dX5_mayEnd_28 ?_
        refine v_goto (tgt := 33) dX5_mayEnd_29 (by decide) ?_
        refine v_zreturn rfl (Or.inr rfl) dX5_mayEnd_33 ⟨by decide, by decide⟩ ?_
        exact ⟨_, rfl, rfl, h⟩
theorem cf_X5_mayEnd {l : Launch} {E : bE} {M : bM} {v1 : Int} {v2 : Int} {Q : Int → Prop} (h : b_wp (F_X5_mayEnd v1 v2 M) Q) : b_C l E xX5_mayEnd yX5_mayEnd [bR 3, bI v1, bI v2] M (b_pIp M Q) := b_met (by decide) ⟨rfl, rfl⟩ (Nat.le_of_ble_eq_true rfl) (fun _ _ => t_X5_mayEnd h)
abbrev xX5_divide : bX := ("BurntHall$Lots", prog_7_method_14_code, 7, (Option.some Jvm.ClassFile.FieldType.int), b_rm 2 0 0, 0, "divide")
abbrev yX5_divide : MethodName := ⟨"BurntHall$Lots", "divide", "(III)I"⟩
theorem dX5_divide_0 : decode prog_7_method_14_code 0 = .ok (.aload_n 0, 1) := by decide +kernel
theorem dX5_divide_1 : decode prog_7_method_14_code 1 = .ok (.iload_n 1, 1) := by decide +kernel
theorem dX5_divide_2 : decode prog_7_method_14_code 2 = .ok (.invokevirtual 87, 3) := by decide +kernel
theorem dX5_divide_5 : decode prog_7_method_14_code 5 = .ok (.ifCond .ne 6, 3) := by decide +kernel
theorem dX5_divide_8 : decode prog_7_method_14_code 8 = .ok (.bipush (-2), 2) := by decide +kernel
theorem dX5_divide_10 : decode prog_7_method_14_code 10 = .ok (.ireturn, 1) := by decide +kernel
theorem dX5_divide_11 : decode prog_7_method_14_code 11 = .ok (.aload_n 0, 1) := by decide +kernel
theorem dX5_divide_12 : decode prog_7_method_14_code 12 = .ok (.getfield 79, 3) := by decide +kernel
theorem dX5_divide_15 : decode prog_7_method_14_code 15 = .ok (.istore 4, 2) := by decide +kernel
theorem dX5_divide_17 : decode prog_7_method_14_code 17 = .ok (.iconst 0, 1) := by decide +kernel
theorem dX5_divide_18 : decode prog_7_method_14_code 18 = .ok (.istore 5, 2) := by decide +kernel
theorem dX5_divide_20 : decode prog_7_method_14_code 20 = .ok (.iconst 0, 1) := by decide +kernel
theorem dX5_divide_21 : decode prog_7_method_14_code 21 = .ok (.istore 6, 2) := by decide +kernel
theorem dX5_divide_23 : decode prog_7_method_14_code 23 = .ok (.iload 6, 2) := by decide +kernel
theorem dX5_divide_25 : decode prog_7_method_14_code 25 = .ok (.iload_n 3, 1) := by decide +kernel
theorem dX5_divide_26 : decode prog_7_method_14_code 26 = .ok (.if_icmp .ge 46, 3) := by decide +kernel
theorem dX5_divide_29 : decode prog_7_method_14_code 29 = .ok (.iload 6, 2) := by decide +kernel
theorem dX5_divide_31 : decode prog_7_method_14_code 31 = .ok (.iconst 4, 1) := by decide +kernel
theorem dX5_divide_32 : decode prog_7_method_14_code 32 = .ok (.if_icmp .ge 40, 3) := by decide +kernel
theorem dX5_divide_35 : decode prog_7_method_14_code 35 = .ok (.aload_n 0, 1) := by decide +kernel
theorem dX5_divide_36 : decode prog_7_method_14_code 36 = .ok (.aload_n 0, 1) := by decide +kernel
theorem dX5_divide_37 : decode prog_7_method_14_code 37 = .ok (.getfield 63, 3) := by decide +kernel
theorem dX5_divide_40 : decode prog_7_method_14_code 40 = .ok (.iload 6, 2) := by decide +kernel
theorem dX5_divide_42 : decode prog_7_method_14_code 42 = .ok (.iaload, 1) := by decide +kernel
theorem dX5_divide_43 : decode prog_7_method_14_code 43 = .ok (.iload_n 2, 1) := by decide +kernel
theorem dX5_divide_44 : decode prog_7_method_14_code 44 = .ok (.aload_n 0, 1) := by decide +kernel
theorem dX5_divide_45 : decode prog_7_method_14_code 45 = .ok (.getfield 39, 3) := by decide +kernel
theorem dX5_divide_48 : decode prog_7_method_14_code 48 = .ok (.iload_n 1, 1) := by decide +kernel
theorem dX5_divide_49 : decode prog_7_method_14_code 49 = .ok (.laload, 1) := by decide +kernel
theorem dX5_divide_50 : decode prog_7_method_14_code 50 = .ok (.invokevirtual 104, 3) := by decide +kernel
theorem dX5_divide_53 : decode prog_7_method_14_code 53 = .ok (.pop, 1) := by decide +kernel
theorem dX5_divide_54 : decode prog_7_method_14_code 54 = .ok (.iload 5, 2) := by decide +kernel
theorem dX5_divide_56 : decode prog_7_method_14_code 56 = .ok (.aload_n 0, 1) := by decide +kernel
theorem dX5_divide_57 : decode prog_7_method_14_code 57 = .ok (.getfield 63, 3) := by decide +kernel
theorem dX5_divide_60 : decode prog_7_method_14_code 60 = .ok (.iload 6, 2) := by decide +kernel
theorem dX5_divide_62 : decode prog_7_method_14_code 62 = .ok (.iaload, 1) := by decide +kernel
theorem dX5_divide_63 : decode prog_7_method_14_code 63 = .ok (.iadd, 1) := by decide +kernel
theorem dX5_divide_64 : decode prog_7_method_14_code 64 = .ok (.istore 5, 2) := by decide +kernel
theorem dX5_divide_66 : decode prog_7_method_14_code 66 = .ok (.iinc 6 1, 3) := by decide +kernel
theorem dX5_divide_69 : decode prog_7_method_14_code 69 = .ok (.goto (-46), 3) := by decide +kernel
theorem dX5_divide_72 : decode prog_7_method_14_code 72 = .ok (.aload_n 0, 1) := by decide +kernel
theorem dX5_divide_73 : decode prog_7_method_14_code 73 = .ok (.getfield 30, 3) := by decide +kernel
theorem dX5_divide_76 : decode prog_7_method_14_code 76 = .ok (.iload_n 1, 1) := by decide +kernel
theorem dX5_divide_77 : decode prog_7_method_14_code 77 = .ok (.iload_n 2, 1) := by decide +kernel
theorem dX5_divide_78 : decode prog_7_method_14_code 78 = .ok (.iastore, 1) := by decide +kernel
theorem dX5_divide_79 : decode prog_7_method_14_code 79 = .ok (.aload_n 0, 1) := by decide +kernel
theorem dX5_divide_80 : decode prog_7_method_14_code 80 = .ok (.getfield 33, 3) := by decide +kernel
theorem dX5_divide_83 : decode prog_7_method_14_code 83 = .ok (.iload_n 1, 1) := by decide +kernel
theorem dX5_divide_84 : decode prog_7_method_14_code 84 = .ok (.aload_n 0, 1) := by decide +kernel
theorem dX5_divide_85 : decode prog_7_method_14_code 85 = .ok (.getfield 23, 3) := by decide +kernel
theorem dX5_divide_88 : decode prog_7_method_14_code 88 = .ok (.iload_n 1, 1) := by decide +kernel
theorem dX5_divide_89 : decode prog_7_method_14_code 89 = .ok (.iaload, 1) := by decide +kernel
theorem dX5_divide_90 : decode prog_7_method_14_code 90 = .ok (.iload 5, 2) := by decide +kernel
theorem dX5_divide_92 : decode prog_7_method_14_code 92 = .ok (.isub, 1) := by decide +kernel
theorem dX5_divide_93 : decode prog_7_method_14_code 93 = .ok (.iastore, 1) := by decide +kernel
theorem dX5_divide_94 : decode prog_7_method_14_code 94 = .ok (.iload 4, 2) := by decide +kernel
theorem dX5_divide_96 : decode prog_7_method_14_code 96 = .ok (.ireturn, 1) := by decide +kernel
abbrev A_X5_divide_23 (l : Launch) (E : bE) (Q : (Int × bM) → Prop) (v1 : Int) (v2 : Int) (v3 : Int) (v4 : Int) : (Int × Int × bM) → Prop := (fun t : Int × Int × bM => V l E xX5_divide (0, 0) 23 [(0, bR 3), (1, bI v1), (2, bI v2), (3, bI v3), (4, bI v4), (5, bI (t.1)), (6, bI (t.2.1))] [] t.2.2 (b_pI Q))
abbrev X_X5_divide_23 (l : Launch) (E : bE) (Q : (Int × bM) → Prop) (v1 : Int) (v2 : Int) (v3 : Int) (v4 : Int) : (Int × bM) → Prop := (fun t : Int × bM => V l E xX5_divide (0, 0) 72 [(0, bR 3), (1, bI v1), (2, bI v2), (4, bI v4), (5, bI (t.1))] [] t.2 (b_pI Q))
noncomputable def F_X5_divide_s23 (v1 : Int) (v2 : Int) (v3 : Int) (v4 : Int) (v5 : Int) (v6 : Int) (M : bM) : Option ((Int × Int × bM) ⊕ (Int × bM)) :=
  if v3 ≤ v6 then (some (.inr (v5, M))) else (if 4 ≤ v6 then (some (.inr (v5, M))) else (b_g ((0 ≤ v6 ∧ v6 < 4) ∧ (0 ≤ v1 ∧ v1 < 60)) (b_bind (F_X5_add (M 99 v6) v2 (M 91 v1) M) (fun t => b_two t (fun x7 M8 => b_g ((0 ≤ v6 ∧ v6 < 4) ∧ (b_i32 (v5 + (M8 99 v6)))) (b_let ((v5 + (M8 99 v6))) (fun y11 => b_g (b_i32 (v6 + 1)) (some (.inl (y11, (v6 + 1), M8))))))))))
theorem t_X5_divide_s23 {l : Launch} {E : bE} {Q : (Int × bM) → Prop} {v1 : Int} {v2 : Int} {v3 : Int} {v4 : Int} {v5 : Int} {v6 : Int} {M : bM} (h : b_wp (F_X5_divide_s23 v1 v2 v3 v4 v5 v6 M) (Sum.elim (A_X5_divide_23 l E Q v1 v2 v3 v4) (X_X5_divide_23 l E Q v1 v2 v3 v4))) : V l E xX5_divide (0, 0) 23 [(0, bR 3), (1, bI v1), (2, bI v2), (3, bI v3), (4, bI v4), (5, bI v5), (6, bI v6)] [] M (b_pI Q) := by
  unfold F_X5_divide_s23 at h
  refine v_iload (i := 6) 6 rfl dX5_divide_23 ?_
  refine v_iload_n (f := 3) 3 rfl dX5_divide_25 ?_
  refine v_icmp_ge (tgt := 72) dX5_divide_26 (by decide) (fun c3 => ?_) (fun c3 => ?_)
  · replace h := b_wp_t c3 h
    refine v_sub (ls2 := [(0, bR _), (1, bI _), (2, bI _), (4, bI _), (5, bI _)]) [0, 1, 2, 4, 5] rfl ?_
    exact h
  · replace h := b_wp_f c3 h
    refine v_iload (i := 6) 6 rfl dX5_divide_29 ?_
    refine v_iconst ⟨by decide, by decide⟩ dX5_divide_31 ?_
    refine v_icmp_ge (tgt := 72) dX5_divide_32 (by decide) (fun c4 => ?_) (fun c4 => ?_)
    · replace h := b_wp_t c4 h
      refine v_sub (ls2 := [(0, bR _), (1, bI _), (2, bI _), (4, bI _), (5, bI _)]) [0, 1, 2, 4, 5] rfl ?_
      exact h
    · replace h := b_wp_f c4 h
      obtain ⟨⟨g5, g6⟩, h⟩ := b_wp_g h
      refine v_aload_n (f := 0) 0 rfl dX5_divide_35 ?_
      refine v_aload_n (f := 0) 0 rfl dX5_divide_36 ?_
      refine v_getR (kf := 15) (kz := 15) rfl kd_3 rfl ⟨by decide, by decide⟩ rfl wf_5_63 dX5_divide_37 ?_
      refine v_iload (i := 6) 6 rfl dX5_divide_40 ?_
      refine v_iaload kd_99 g5 (by decide) dX5_divide_42 ?_
      refine v_iload_n (f := 2) 2 rfl dX5_divide_43 ?_
      refine v_aload_n (f := 0) 0 rfl dX5_divide_44 ?_
      refine v_getR (kf := 7) (kz := 7) rfl kd_3 rfl ⟨by decide, by decide⟩ rfl wf_5_39 dX5_divide_45 ?_
      refine v_iload_n (f := 1) 1 rfl dX5_divide_48 ?_
      refine v_laload kd_91 g6 (by decide) dX5_divide_49 ?_
      refine v_cVI (nA := 3) (As := [bI _, bI _, bJ _]) (ix := 104) (cf_X5_add (b_wp_b h)) rfl kd_3 rfl rfl wc_X5_add wm_5_104 wi_X5_add ws_X5_add wn_5 ⟨by decide, by decide, by decide⟩ rfl ⟨by decide, by decide⟩ ⟨by decide, by decide⟩ (Nat.le_of_ble_eq_true rfl) dX5_divide_50 (fun x7 M8 h => ?_)
      replace h := b_wp_two h
      obtain ⟨⟨g9, g10⟩, h⟩ := b_wp_g h
      refine v_pop rfl dX5_divide_53 ?_
      refine v_iload (i := 5) 5 rfl dX5_divide_54 ?_
      refine v_aload_n (f := 0) 0 rfl dX5_divide_56 ?_
      refine v_getR (kf := 15) (kz := 15) rfl kd_3 rfl ⟨by decide, by decide⟩ rfl wf_5_63 dX5_divide_57 ?_
      refine v_iload (i := 6) 6 rfl dX5_divide_60 ?_
      refine v_iaload kd_99 g9 (by decide) dX5_divide_62 ?_
      refine v_iaddN g10 dX5_divide_63 ?_
      replace h := b_wp_l h
      obtain ⟨g12, h⟩ := b_wp_g h
      refine v_istore (i := 5) (ls' := [(5, bI _), (0, bR _), (1, bI _), (2, bI _), (3, bI _), (4, bI _), (6, bI _)]) (by decide) dX5_divide_64 rfl ?_
      refine v_iincN (ls' := [(6, bI _), (5, bI _), (0, bR _), (1, bI _), (2, bI _), (3, bI _), (4, bI _)]) 6 rfl (by decide) g12 dX5_divide_66 rfl ?_
      refine v_goto (tgt := 23) dX5_divide_69 (by decide) ?_
      refine v_sub (ls2 := [(0, bR _), (1, bI _), (2, bI _), (3, bI _), (4, bI _), (5, bI _), (6, bI _)]) [2, 3, 4, 5, 6, 1, 0] rfl ?_
      exact h
theorem l_X5_divide_23 {l : Launch} {E : bE} {Q : (Int × bM) → Prop} {v1 : Int} {v2 : Int} {v3 : Int} {v4 : Int} {s : Int × Int × bM} (h : b_wp (b_loop (fun t => F_X5_divide_s23 v1 v2 v3 v4 t.1 t.2.1 t.2.2) s) (X_X5_divide_23 l E Q v1 v2 v3 v4)) : A_X5_divide_23 l E Q v1 v2 v3 v4 s := b_loop_wp (fun t h => t_X5_divide_s23 h) s h
noncomputable def F_X5_divide_b72 (v1 : Int) (v2 : Int) (v4 : Int) (v5 : Int) (M : bM) : Option (Int × bM) :=
  b_g (0 ≤ v1 ∧ v1 < 60) (b_let (b_up M 88 v1 v2) (fun M14 => b_g ((0 ≤ v1 ∧ v1 < 60) ∧ (b_i32 ((M14 86 v1) - v5))) (b_let (b_up M14 89 v1 ((M14 86 v1) - v5)) (fun M17 => some (v4, M17)))))
theorem t_X5_divide_b72 {l : Launch} {E : bE} {Q : (Int × bM) → Prop} {v1 : Int} {v2 : Int} {v4 : Int} {v5 : Int} {M : bM} (h : b_wp (F_X5_divide_b72 v1 v2 v4 v5 M) (Q)) : V l E xX5_divide (0, 0) 72 [(0, bR 3), (1, bI v1), (2, bI v2), (4, bI v4), (5, bI v5)] [] M (b_pI Q) := by
  unfold F_X5_divide_b72 at h
  obtain ⟨g13, h⟩ := b_wp_g h
  refine v_aload_n (f := 0) 0 rfl dX5_divide_72 ?_
  refine v_getR (kf := 4) (kz := 4) rfl kd_3 rfl ⟨by decide, by decide⟩ rfl wf_5_30 dX5_divide_73 ?_
  refine v_iload_n (f := 1) 1 rfl dX5_divide_76 ?_
  refine v_iload_n (f := 2) 2 rfl dX5_divide_77 ?_
  refine v_iastore kd_88 g13 (by decide) dX5_divide_78 ?_
  replace h := b_wp_l h
  obtain ⟨⟨g15, g16⟩, h⟩ := b_wp_g h
  refine v_aload_n (f := 0) 0 rfl dX5_divide_79 ?_
  refine v_getR (kf := 5) (kz := 5) rfl kd_3 rfl ⟨by decide, by decide⟩ rfl wf_5_33 dX5_divide_80 ?_
  refine v_iload_n (f := 1) 1 rfl dX5_divide_83 ?_
  refine v_aload_n (f := 0) 0 rfl dX5_divide_84 ?_
  refine v_getR (kf := 2) (kz := 2) rfl kd_3 rfl ⟨by decide, by decide⟩ rfl wf_5_23 dX5_divide_85 ?_
  refine v_iload_n (f := 1) 1 rfl dX5_divide_88 ?_
  refine v_iaload kd_86 g15 (by decide) dX5_divide_89 ?_
  refine v_iload (i := 5) 4 rfl dX5_divide_90 ?_
  refine v_isubN g16 dX5_divide_92 ?_
  refine v_iastore kd_89 g15 (by decide) dX5_divide_93 ?_
  replace h := b_wp_l h
  refine v_iload (i := 4) 3 rfl dX5_divide_94 ?_
  refine v_ireturn rfl dX5_divide_96 ⟨by decide, by decide⟩ ?_
  exact ⟨_, rfl, h⟩
noncomputable def F_X5_divide (v1 : Int) (v2 : Int) (v3 : Int) (M : bM) : Option (Int × bM) :=
  b_bind (F_X5_has v1 M) (fun x1 => if x1 = 0 then (some ((-2), M)) else (b_bind (b_loop (fun t => F_X5_divide_s23 v1 v2 v3 (M 3 0) t.1 t.2.1 t.2.2) (0, 0, M)) (fun t => F_X5_divide_b72 v1 v2 (M 3 0) (t.1) (t.2))))
theorem t_X5_divide {l : Launch} {E : bE} {Q : (Int × bM) → Prop} {v1 : Int} {v2 : Int} {v3 : Int} {M : bM} (h : b_wp (F_X5_divide v1 v2 v3 M) (Q)) : V l E xX5_divide (0, 0) 0 [(0, bR 3), (1, bI v1), (2, bI v2), (3, bI v3)] [] M (b_pI Q) := by
  unfold F_X5_divide at h
  refine v_aload_n (f := 0) 0 rfl dX5_divide_0 ?_
  refine v_iload_n (f := 1) 1 rfl dX5_divide_1 ?_
  refine v_cVIp (nA := 1) (As := [bI _]) (ix := 87) (cf_X5_has (b_wp_b h)) rfl kd_3 rfl rfl wc_X5_has wm_5_87 wi_X5_has ws_X5_has wn_5 ⟨by decide, by decide, by decide⟩ rfl ⟨by decide, by decide⟩ ⟨by decide, by decide⟩ (Nat.le_of_ble_eq_true rfl) dX5_divide_2 (fun x1 h => ?_)
  refine v_if_ne (tgt := 11) dX5_divide_5 (by decide) (fun c2 => ?_) (fun c2 => ?_)
  · replace h := b_wp_f c2 h
    refine v_aload_n (f := 0) 0 rfl dX5_divide_11 ?_
    refine v_getI (kf := 0) (kz := 0) rfl kd_3 rfl ⟨by decide, by decide⟩ rfl wf_5_79 dX5_divide_12 ?_
    refine v_istore (i := 4) (ls' := [(4, bI _), (0, bR _), (1, bI _), (2, bI _), (3, bI _)]) (by decide) dX5_divide_15 rfl ?_
    refine v_iconst ⟨by decide, by decide⟩ dX5_divide_17 ?_
    refine v_istore (i := 5) (ls' := [(5, bI _), (4, bI _), (0, bR _), (1, bI _), (2, bI _), (3, bI _)]) (by decide) dX5_divide_18 rfl ?_
    refine v_iconst ⟨by decide, by decide⟩ dX5_divide_20 ?_
    refine v_istore (i := 6) (ls' := [(6, bI _), (5, bI _), (4, bI _), (0, bR _), (1, bI _), (2, bI _), (3, bI _)]) (by decide) dX5_divide_21 rfl ?_
    refine v_sub (ls2 := [(0, bR _), (1, bI _), (2, bI _), (3, bI _), (4, bI _), (5, bI _), (6, bI _)]) [3, 4, 5, 6, 2, 1, 0] rfl ?_
    refine l_X5_divide_23 (b_wp_m (fun t h => ?_) (b_wp_b h))
    show V l E xX5_divide (0, 0) 72 [(0, bR 3), (1, bI _), (2, bI _), (4, bI _), (5, bI _)] [] _ (b_pI Q)
    exact t_X5_divide_b72 h
  · replace h := b_wp_t c2 h
    refine v_bipush ⟨by decide, by decide⟩ (by decide) dX5_divide_8 ?_
    refine v_ireturn rfl dX5_divide_10 ⟨by decide, by decide⟩ ?_
    exact ⟨_, rfl, h⟩
theorem cf_X5_divide {l : Launch} {E : bE} {M : bM} {v1 : Int} {v2 : Int} {v3 : Int} {Q : (Int × bM) → Prop} (h : b_wp (F_X5_divide v1 v2 v3 M) Q) : b_C l E xX5_divide yX5_divide [bR 3, bI v1, bI v2, bI v3] M (b_pI Q) := b_met (by decide) ⟨rfl, rfl⟩ (Nat.le_of_ble_eq_true rfl) (fun _ _ => t_X5_divide h)
abbrev xX11_split : bX := ("BurntHall", prog_1_method_15_code, 8, (Option.some Jvm.ClassFile.FieldType.int), b_rm 3 0 0, 0, "split")
abbrev yX11_split : MethodName := ⟨"BurntHall", "split", "(IIIIIII)I"⟩
theorem dX11_split_0 : decode prog_1_method_15_code 0 = .ok (.aload_n 0, 1) := by decide +kernel
theorem dX11_split_1 : decode prog_1_method_15_code 1 = .ok (.getfield 26, 3) := by decide +kernel
theorem dX11_split_4 : decode prog_1_method_15_code 4 = .ok (.iload_n 1, 1) := by decide +kernel
theorem dX11_split_5 : decode prog_1_method_15_code 5 = .ok (.invokevirtual 146, 3) := by decide +kernel
theorem dX11_split_8 : decode prog_1_method_15_code 8 = .ok (.ifCond .eq 20, 3) := by decide +kernel
theorem dX11_split_11 : decode prog_1_method_15_code 11 = .ok (.iload_n 2, 1) := by decide +kernel
theorem dX11_split_12 : decode prog_1_method_15_code 12 = .ok (.invokestatic 102, 3) := by decide +kernel
theorem dX11_split_15 : decode prog_1_method_15_code 15 = .ok (.ifCond .eq 13, 3) := by decide +kernel
theorem dX11_split_18 : decode prog_1_method_15_code 18 = .ok (.iload_n 3, 1) := by decide +kernel
theorem dX11_split_19 : decode prog_1_method_15_code 19 = .ok (.iconst 2, 1) := by decide +kernel
theorem dX11_split_20 : decode prog_1_method_15_code 20 = .ok (.if_icmp .lt 8, 3) := by decide +kernel
theorem dX11_split_23 : decode prog_1_method_15_code 23 = .ok (.iload_n 3, 1) := by decide +kernel
theorem dX11_split_24 : decode prog_1_method_15_code 24 = .ok (.iconst 4, 1) := by decide +kernel
theorem dX11_split_25 : decode prog_1_method_15_code 25 = .ok (.if_icmp .le 6, 3) := by decide +kernel
theorem dX11_split_28 : decode prog_1_method_15_code 28 = .ok (.bipush (-2), 2) := by decide +kernel
theorem dX11_split_30 : decode prog_1_method_15_code 30 = .ok (.ireturn, 1) := by decide +kernel
theorem dX11_split_31 : decode prog_1_method_15_code 31 = .ok (.aload_n 0, 1) := by decide +kernel
theorem dX11_split_32 : decode prog_1_method_15_code 32 = .ok (.getfield 26, 3) := by decide +kernel
theorem dX11_split_35 : decode prog_1_method_15_code 35 = .ok (.iload 4, 2) := by decide +kernel
theorem dX11_split_37 : decode prog_1_method_15_code 37 = .ok (.iload 5, 2) := by decide +kernel
theorem dX11_split_39 : decode prog_1_method_15_code 39 = .ok (.iload 6, 2) := by decide +kernel
theorem dX11_split_41 : decode prog_1_method_15_code 41 = .ok (.iload 7, 2) := by decide +kernel
theorem dX11_split_43 : decode prog_1_method_15_code 43 = .ok (.invokevirtual 147, 3) := by decide +kernel
theorem dX11_split_46 : decode prog_1_method_15_code 46 = .ok (.aload_n 0, 1) := by decide +kernel
theorem dX11_split_47 : decode prog_1_method_15_code 47 = .ok (.getfield 26, 3) := by decide +kernel
theorem dX11_split_50 : decode prog_1_method_15_code 50 = .ok (.iload_n 3, 1) := by decide +kernel
theorem dX11_split_51 : decode prog_1_method_15_code 51 = .ok (.invokevirtual 151, 3) := by decide +kernel
theorem dX11_split_54 : decode prog_1_method_15_code 54 = .ok (.ifCond .ne 6, 3) := by decide +kernel
theorem dX11_split_57 : decode prog_1_method_15_code 57 = .ok (.bipush (-2), 2) := by decide +kernel
theorem dX11_split_59 : decode prog_1_method_15_code 59 = .ok (.ireturn, 1) := by decide +kernel
theorem dX11_split_60 : decode prog_1_method_15_code 60 = .ok (.aload_n 0, 1) := by decide +kernel
theorem dX11_split_61 : decode prog_1_method_15_code 61 = .ok (.getfield 26, 3) := by decide +kernel
theorem dX11_split_64 : decode prog_1_method_15_code 64 = .ok (.iload_n 1, 1) := by decide +kernel
theorem dX11_split_65 : decode prog_1_method_15_code 65 = .ok (.iload_n 2, 1) := by decide +kernel
theorem dX11_split_66 : decode prog_1_method_15_code 66 = .ok (.invokevirtual 154, 3) := by decide +kernel
theorem dX11_split_69 : decode prog_1_method_15_code 69 = .ok (.ifCond .ne 6, 3) := by decide +kernel
theorem dX11_split_72 : decode prog_1_method_15_code 72 = .ok (.bipush (-4), 2) := by decide +kernel
theorem dX11_split_74 : decode prog_1_method_15_code 74 = .ok (.ireturn, 1) := by decide +kernel
theorem dX11_split_75 : decode prog_1_method_15_code 75 = .ok (.aload_n 0, 1) := by decide +kernel
theorem dX11_split_76 : decode prog_1_method_15_code 76 = .ok (.getfield 26, 3) := by decide +kernel
theorem dX11_split_79 : decode prog_1_method_15_code 79 = .ok (.invokevirtual 139, 3) := by decide +kernel
theorem dX11_split_82 : decode prog_1_method_15_code 82 = .ok (.iload_n 3, 1) := by decide +kernel
theorem dX11_split_83 : decode prog_1_method_15_code 83 = .ok (.if_icmp .ge 6, 3) := by decide +kernel
theorem dX11_split_86 : decode prog_1_method_15_code 86 = .ok (.bipush (-3), 2) := by decide +kernel
theorem dX11_split_88 : decode prog_1_method_15_code 88 = .ok (.ireturn, 1) := by decide +kernel
theorem dX11_split_89 : decode prog_1_method_15_code 89 = .ok (.aload_n 0, 1) := by decide +kernel
theorem dX11_split_90 : decode prog_1_method_15_code 90 = .ok (.getfield 51, 3) := by decide +kernel
theorem dX11_split_93 : decode prog_1_method_15_code 93 = .ok (.invokevirtual 113, 3) := by decide +kernel
theorem dX11_split_96 : decode prog_1_method_15_code 96 = .ok (.aload_n 0, 1) := by decide +kernel
theorem dX11_split_97 : decode prog_1_method_15_code 97 = .ok (.getfield 26, 3) := by decide +kernel
theorem dX11_split_100 : decode prog_1_method_15_code 100 = .ok (.iload_n 1, 1) := by decide +kernel
theorem dX11_split_101 : decode prog_1_method_15_code 101 = .ok (.iload_n 2, 1) := by decide +kernel
theorem dX11_split_102 : decode prog_1_method_15_code 102 = .ok (.iload_n 3, 1) := by decide +kernel
theorem dX11_split_103 : decode prog_1_method_15_code 103 = .ok (.invokevirtual 158, 3) := by decide +kernel
theorem dX11_split_106 : decode prog_1_method_15_code 106 = .ok (.ireturn, 1) := by decide +kernel
noncomputable def F_X11_split (v1 : Int) (v2 : Int) (v3 : Int) (v4 : Int) (v5 : Int) (v6 : Int) (v7 : Int) (M : bM) : Option (Int × bM) :=
  b_bind (F_X5_has v1 M) (fun x1 => if x1 = 0 then (some ((-2), M)) else (b_bind (F_X11_isDay v2 M) (fun x3 => if x3 = 0 then (some ((-2), M)) else (if v3 < 2 then (some ((-2), M)) else (if v3 ≤ 4 then (b_bind (F_X5_four v4 v5 v6 v7 M) (fun M7 => b_bind (F_X5_fourAreFeet v3 M7) (fun x8 => if x8 = 0 then (some ((-2), M7)) else (b_bind (F_X5_mayEnd v1 v2 M7) (fun x10 => if x10 = 0 then (some ((-4), M7)) else (b_bind (F_X5_room M7) (fun x12 => if v3 ≤ x12 then (b_bind (F_X4_forget M7) (fun M14 => b_bind (F_X5_divide v1 v2 v3 M14) (fun t => b_two t (fun x15 M16 => some (x15, M16))))) else (some ((-3), M7))))))))) else (some ((-2), M)))))))
theorem t_X11_split {l : Launch} {E : bE} {Q : (Int × bM) → Prop} {v1 : Int} {v2 : Int} {v3 : Int} {v4 : Int} {v5 : Int} {v6 : Int} {v7 : Int} {M : bM} (h : b_wp (F_X11_split v1 v2 v3 v4 v5 v6 v7 M) (Q)) : V l E xX11_split (0, 0) 0 [(0, bR 0), (1, bI v1), (2, bI v2), (3, bI v3), (4, bI v4), (5, bI v5), (6, bI v6), (7, bI v7)] [] M (b_pI Q) := by
  unfold F_X11_split at h
  refine v_aload_n (f := 0) 0 rfl dX11_split_0 ?_
  refine v_getR (kf := 2) (kz := 2) rfl kd_0 rfl ⟨by decide, by decide⟩ rfl wf_11_26 dX11_split_1 ?_
  refine v_iload_n (f := 1) 1 rfl dX11_split_4 ?_
  refine v_cVIp (nA := 1) (As := [bI _]) (ix := 146) (cf_X5_has (b_wp_b h)) rfl kd_3 rfl rfl wc_X5_has wm_11_146 wi_X5_has ws_X5_has wn_5 ⟨by decide, by decide, by decide⟩ rfl ⟨by decide, by decide⟩ ⟨by decide, by decide⟩ (Nat.le_of_ble_eq_true rfl) dX11_split_5 (fun x1 h => ?_)
  refine v_if_eq (tgt := 28) dX11_split_8 (by decide) (fun c2 => ?_) (fun c2 => ?_)
  · replace h := b_wp_t c2 h
    refine v_bipush ⟨by decide, by decide⟩ (by decide) dX11_split_28 ?_
    refine v_ireturn rfl dX11_split_30 ⟨by decide, by decide⟩ ?_
    exact ⟨_, rfl, h⟩
  · replace h := b_wp_f c2 h
    refine v_iload_n (f := 2) 2 rfl dX11_split_11 ?_
    refine v_cSIp (nA := 1) (As := [bI _]) (ix := 102) (cf_X11_isDay (b_wp_b h)) rfl wc_X11_isDay wm_11_102 wi_X11_isDay wn_11 ⟨by decide, by decide, by decide⟩ rfl ⟨by decide, by decide⟩ ⟨by decide, by decide⟩ (Nat.le_of_ble_eq_true rfl) dX11_split_12 (fun x3 h => ?_)
    refine v_if_eq (tgt := 28) dX11_split_15 (by decide) (fun c4 => ?_) (fun c4 => ?_)
    · replace h := b_wp_t c4 h
      refine v_bipush ⟨by decide, by decide⟩ (by decide) dX11_split_28 ?_
      refine v_ireturn rfl dX11_split_30 ⟨by decide, by decide⟩ ?_
      exact ⟨_, rfl, h⟩
    · replace h := b_wp_f c4 h
      refine v_iload_n (f := 3) 3 rfl dX11_split_18 ?_
      refine v_iconst ⟨by decide, by decide⟩ dX11_split_19 ?_
      refine v_icmp_lt (tgt := 28) dX11_split_20 (by decide) (fun c5 => ?_) (fun c5 => ?_)
      · replace h := b_wp_t c5 h
        refine v_bipush ⟨by decide, by decide⟩ (by decide) dX11_split_28 ?_
        refine v_ireturn rfl dX11_split_30 ⟨by decide, by decide⟩ ?_
        exact ⟨_, rfl, h⟩
      · replace h := b_wp_f c5 h
        refine v_iload_n (f := 3) 3 rfl dX11_split_23 ?_
        refine v_iconst ⟨by decide, by decide⟩ dX11_split_24 ?_
        refine v_icmp_le (tgt := 31) dX11_split_25 (by decide) (fun c6 => ?_) (fun c6 => ?_)
        · replace h := b_wp_t c6 h
          refine v_aload_n (f := 0) 0 rfl dX11_split_31 ?_
          refine v_getR (kf := 2) (kz := 2) rfl kd_0 rfl ⟨by decide, by decide⟩ rfl wf_11_26 dX11_split_32 ?_
          refine v_iload (i := 4) 4 rfl dX11_split_35 ?_
          refine v_iload (i := 5) 5 rfl dX11_split_37 ?_
          refine v_iload (i := 6) 6 rfl dX11_split_39 ?_
          refine v_iload (i := 7) 7 rfl dX11_split_41 ?_
          refine v_cVV (nA := 4) (As := [bI _, bI _, bI _, bI _]) (ix := 147) (cf_X5_four (b_wp_b h)) rfl kd_3 rfl rfl wc_X5_four wm_11_147 wi_X5_four ws_X5_four wn_5 ⟨by decide, by decide, by decide⟩ rfl ⟨by decide, by decide⟩ ⟨by decide, by decide⟩ (Nat.le_of_ble_eq_true rfl) dX11_split_43 (fun M7 h => ?_)
          refine v_aload_n (f := 0) 0 rfl dX11_split_46 ?_
          refine v_getR (kf := 2) (kz := 2) rfl kd_0 rfl ⟨by decide, by decide⟩ rfl wf_11_26 dX11_split_47 ?_
          refine v_iload_n (f := 3) 3 rfl dX11_split_50 ?_
          refine v_cVIp (nA := 1) (As := [bI _]) (ix := 151) (cf_X5_fourAreFeet (b_wp_b h)) rfl kd_3 rfl rfl wc_X5_fourAreFeet wm_11_151 wi_X5_fourAreFeet ws_X5_fourAreFeet wn_5 ⟨by decide, by decide, by decide⟩ rfl ⟨by decide, by decide⟩ ⟨by decide, by decide⟩ (Nat.le_of_ble_eq_true rfl) dX11_split_51 (fun x8 h => ?_)
          refine v_if_ne (tgt := 60) dX11_split_54 (by decide) (fun c9 => ?_) (fun c9 => ?_)
          · replace h := b_wp_f c9 h
            refine v_aload_n (f := 0) 0 rfl dX11_split_60 ?_
            refine v_getR (kf := 2) (kz := 2) rfl kd_0 rfl ⟨by decide, by decide⟩ rfl wf_11_26 dX11_split_61 ?_
            refine v_iload_n (f := 1) 1 rfl dX11_split_64 ?_
            refine v_iload_n (f := 2) 2 rfl dX11_split_65 ?_
            refine v_cVIp (nA := 2) (As := [bI _, bI _]) (ix := 154) (cf_X5_mayEnd (b_wp_b h)) rfl kd_3 rfl rfl wc_X5_mayEnd wm_11_154 wi_X5_mayEnd ws_X5_mayEnd wn_5 ⟨by decide, by decide, by decide⟩ rfl ⟨by decide, by decide⟩ ⟨by decide, by decide⟩ (Nat.le_of_ble_eq_true rfl) dX11_split_66 (fun x10 h => ?_)
            refine v_if_ne (tgt := 75) dX11_split_69 (by decide) (fun c11 => ?_) (fun c11 => ?_)
            · replace h := b_wp_f c11 h
              refine v_aload_n (f := 0) 0 rfl dX11_split_75 ?_
              refine v_getR (kf := 2) (kz := 2) rfl kd_0 rfl ⟨by decide, by decide⟩ rfl wf_11_26 dX11_split_76 ?_
              refine v_cVIp (nA := 0) (As := []) (ix := 139) (cf_X5_room (b_wp_b h)) rfl kd_3 rfl rfl wc_X5_room wm_11_139 wi_X5_room ws_X5_room wn_5 ⟨by decide, by decide, by decide⟩ rfl ⟨by decide, by decide⟩ ⟨by decide, by decide⟩ (Nat.le_of_ble_eq_true rfl) dX11_split_79 (fun x12 h => ?_)
              refine v_iload_n (f := 3) 3 rfl dX11_split_82 ?_
              refine v_icmp_ge (tgt := 89) dX11_split_83 (by decide) (fun c13 => ?_) (fun c13 => ?_)
              · replace h := b_wp_t c13 h
                refine v_aload_n (f := 0) 0 rfl dX11_split_89 ?_
                refine v_getR (kf := 5) (kz := 5) rfl kd_0 rfl ⟨by decide, by decide⟩ rfl wf_11_51 dX11_split_90 ?_
                refine v_cVV (nA := 0) (As := []) (ix := 113) (cf_X4_forget (b_wp_b h)) rfl kd_6 rfl rfl wc_X4_forget wm_11_113 wi_X4_forget ws_X4_forget wn_4 ⟨by decide, by decide, by decide⟩ rfl ⟨by decide, by decide⟩ ⟨by decide, by decide⟩ (Nat.le_of_ble_eq_true rfl) dX11_split_93 (fun M14 h => ?_)
                refine v_aload_n (f := 0) 0 rfl dX11_split_96 ?_
                refine v_getR (kf := 2) (kz := 2) rfl kd_0 rfl ⟨by decide, by decide⟩ rfl wf_11_26 dX11_split_97 ?_
                refine v_iload_n (f := 1) 1 rfl dX11_split_100 ?_
                refine v_iload_n (f := 2) 2 rfl dX11_split_101 ?_
                refine v_iload_n (f := 3) 3 rfl dX11_split_102 ?_
                refine v_cVI (nA := 3) (As := [bI _, bI _, bI _]) (ix := 158) (cf_X5_divide (b_wp_b h)) rfl kd_3 rfl rfl wc_X5_divide wm_11_158 wi_X5_divide ws_X5_divide wn_5 ⟨by decide, by decide, by decide⟩ rfl ⟨by decide, by decide⟩ ⟨by decide, by decide⟩ (Nat.le_of_ble_eq_true rfl) dX11_split_103 (fun x15 M16 h => ?_)
                replace h := b_wp_two h
                refine v_ireturn rfl dX11_split_106 ⟨by decide, by decide⟩ ?_
                exact ⟨_, rfl, h⟩
              · replace h := b_wp_f c13 h
                refine v_bipush ⟨by decide, by decide⟩ (by decide) dX11_split_86 ?_
                refine v_ireturn rfl dX11_split_88 ⟨by decide, by decide⟩ ?_
                exact ⟨_, rfl, h⟩
            · replace h := b_wp_t c11 h
              refine v_bipush ⟨by decide, by decide⟩ (by decide) dX11_split_72 ?_
              refine v_ireturn rfl dX11_split_74 ⟨by decide, by decide⟩ ?_
              exact ⟨_, rfl, h⟩
          · replace h := b_wp_t c9 h
            refine v_bipush ⟨by decide, by decide⟩ (by decide) dX11_split_57 ?_
            refine v_ireturn rfl dX11_split_59 ⟨by decide, by decide⟩ ?_
            exact ⟨_, rfl, h⟩
        · replace h := b_wp_f c6 h
          refine v_bipush ⟨by decide, by decide⟩ (by decide) dX11_split_28 ?_
          refine v_ireturn rfl dX11_split_30 ⟨by decide, by decide⟩ ?_
          exact ⟨_, rfl, h⟩
theorem cf_X11_split {l : Launch} {E : bE} {M : bM} {v1 : Int} {v2 : Int} {v3 : Int} {v4 : Int} {v5 : Int} {v6 : Int} {v7 : Int} {Q : (Int × bM) → Prop} (h : b_wp (F_X11_split v1 v2 v3 v4 v5 v6 v7 M) Q) : b_C l E xX11_split yX11_split [bR 0, bI v1, bI v2, bI v3, bI v4, bI v5, bI v6, bI v7] M (b_pI Q) := b_met (by decide) ⟨rfl, rfl⟩ (Nat.le_of_ble_eq_true rfl) (fun _ _ => t_X11_split h)
abbrev xX5_fourAreLots : bX := ("BurntHall$Lots", prog_7_method_8_code, 4, (Option.some Jvm.ClassFile.FieldType.boolean), b_rm 2 0 0, 0, "fourAreLots")
abbrev yX5_fourAreLots : MethodName := ⟨"BurntHall$Lots", "fourAreLots", "(I)Z"⟩
theorem dX5_fourAreLots_0 : decode prog_7_method_8_code 0 = .ok (.iconst 0, 1) := by decide +kernel
theorem dX5_fourAreLots_1 : decode prog_7_method_8_code 1 = .ok (.istore_n 2, 1) := by decide +kernel
theorem dX5_fourAreLots_2 : decode prog_7_method_8_code 2 = .ok (.iload_n 2, 1) := by decide +kernel
theorem dX5_fourAreLots_3 : decode prog_7_method_8_code 3 = .ok (.iload_n 1, 1) := by decide +kernel
theorem dX5_fourAreLots_4 : decode prog_7_method_8_code 4 = .ok (.if_icmp .ge 59, 3) := by decide +kernel
theorem dX5_fourAreLots_7 : decode prog_7_method_8_code 7 = .ok (.iload_n 2, 1) := by decide +kernel
theorem dX5_fourAreLots_8 : decode prog_7_method_8_code 8 = .ok (.iconst 4, 1) := by decide +kernel
theorem dX5_fourAreLots_9 : decode prog_7_method_8_code 9 = .ok (.if_icmp .ge 54, 3) := by decide +kernel
theorem dX5_fourAreLots_12 : decode prog_7_method_8_code 12 = .ok (.aload_n 0, 1) := by decide +kernel
theorem dX5_fourAreLots_13 : decode prog_7_method_8_code 13 = .ok (.aload_n 0, 1) := by decide +kernel
theorem dX5_fourAreLots_14 : decode prog_7_method_8_code 14 = .ok (.getfield 63, 3) := by decide +kernel
theorem dX5_fourAreLots_17 : decode prog_7_method_8_code 17 = .ok (.iload_n 2, 1) := by decide +kernel
theorem dX5_fourAreLots_18 : decode prog_7_method_8_code 18 = .ok (.iaload, 1) := by decide +kernel
theorem dX5_fourAreLots_19 : decode prog_7_method_8_code 19 = .ok (.invokevirtual 87, 3) := by decide +kernel
theorem dX5_fourAreLots_22 : decode prog_7_method_8_code 22 = .ok (.ifCond .ne 5, 3) := by decide +kernel
theorem dX5_fourAreLots_25 : decode prog_7_method_8_code 25 = .ok (.iconst 0, 1) := by decide +kernel
theorem dX5_fourAreLots_26 : decode prog_7_method_8_code 26 = .ok (.ireturn, 1) := by decide +kernel
theorem dX5_fourAreLots_27 : decode prog_7_method_8_code 27 = .ok (.iconst 0, 1) := by decide +kernel
theorem dX5_fourAreLots_28 : decode prog_7_method_8_code 28 = .ok (.istore_n 3, 1) := by decide +kernel
theorem dX5_fourAreLots_29 : decode prog_7_method_8_code 29 = .ok (.iload_n 3, 1) := by decide +kernel
theorem dX5_fourAreLots_30 : decode prog_7_method_8_code 30 = .ok (.iload_n 2, 1) := by decide +kernel
theorem dX5_fourAreLots_31 : decode prog_7_method_8_code 31 = .ok (.if_icmp .ge 26, 3) := by decide +kernel
theorem dX5_fourAreLots_34 : decode prog_7_method_8_code 34 = .ok (.aload_n 0, 1) := by decide +kernel
theorem dX5_fourAreLots_35 : decode prog_7_method_8_code 35 = .ok (.getfield 63, 3) := by decide +kernel
theorem dX5_fourAreLots_38 : decode prog_7_method_8_code 38 = .ok (.iload_n 3, 1) := by decide +kernel
theorem dX5_fourAreLots_39 : decode prog_7_method_8_code 39 = .ok (.iaload, 1) := by decide +kernel
theorem dX5_fourAreLots_40 : decode prog_7_method_8_code 40 = .ok (.aload_n 0, 1) := by decide +kernel
theorem dX5_fourAreLots_41 : decode prog_7_method_8_code 41 = .ok (.getfield 63, 3) := by decide +kernel
theorem dX5_fourAreLots_44 : decode prog_7_method_8_code 44 = .ok (.iload_n 2, 1) := by decide +kernel
theorem dX5_fourAreLots_45 : decode prog_7_method_8_code 45 = .ok (.iaload, 1) := by decide +kernel
theorem dX5_fourAreLots_46 : decode prog_7_method_8_code 46 = .ok (.if_icmp .ne 5, 3) := by decide +kernel
theorem dX5_fourAreLots_49 : decode prog_7_method_8_code 49 = .ok (.iconst 0, 1) := by decide +kernel
theorem dX5_fourAreLots_50 : decode prog_7_method_8_code 50 = .ok (.ireturn, 1) := by decide +kernel
theorem dX5_fourAreLots_51 : decode prog_7_method_8_code 51 = .ok (.iinc 3 1, 3) := by decide +kernel
theorem dX5_fourAreLots_54 : decode prog_7_method_8_code 54 = .ok (.goto (-25), 3) := by decide +kernel
theorem dX5_fourAreLots_57 : decode prog_7_method_8_code 57 = .ok (.iinc 2 1, 3) := by decide +kernel
theorem dX5_fourAreLots_60 : decode prog_7_method_8_code 60 = .ok (.goto (-58), 3) := by decide +kernel
theorem dX5_fourAreLots_63 : decode prog_7_method_8_code 63 = .ok (.iconst 1, 1) := by decide +kernel
theorem dX5_fourAreLots_64 : decode prog_7_method_8_code 64 = .ok (.ireturn, 1) := by decide +kernel
abbrev A_X5_fourAreLots_2 (l : Launch) (E : bE) (Q : Int → Prop) (v1 : Int) (M : bM) : (Int) → Prop := (fun t : Int => V l E xX5_fourAreLots (0, 0) 2 [(0, bR 3), (1, bI v1), (2, bI t)] [] M (b_pIp M Q))
abbrev X_X5_fourAreLots_2 (l : Launch) (E : bE) (Q : Int → Prop) (v1 : Int) (M : bM) : ((Unit) ⊕ Int) → Prop := (Sum.elim (fun t : Unit => V l E xX5_fourAreLots (0, 0) 63 [] [] M (b_pIp M Q)) Q)
abbrev A_X5_fourAreLots_29 (l : Launch) (E : bE) (Q : Int → Prop) (v1 : Int) (v2 : Int) (M : bM) : (Int) → Prop := (fun t : Int => V l E xX5_fourAreLots (0, 0) 29 [(0, bR 3), (1, bI v1), (2, bI v2), (3, bI t)] [] M (b_pIp M Q))
abbrev X_X5_fourAreLots_29 (l : Launch) (E : bE) (Q : Int → Prop) (v1 : Int) (v2 : Int) (M : bM) : ((Unit) ⊕ ((Int) ⊕ ((Unit) ⊕ Int))) → Prop := (Sum.elim (fun t : Unit => V l E xX5_fourAreLots (0, 0) 57 [(0, bR 3), (1, bI v1), (2, bI v2)] [] M (b_pIp M Q)) (Sum.elim (A_X5_fourAreLots_2 l E Q v1 M) (X_X5_fourAreLots_2 l E Q v1 M)))
noncomputable def F_X5_fourAreLots_s29 (v1 : Int) (v2 : Int) (v3 : Int) (M : bM) : Option ((Int) ⊕ ((Unit) ⊕ ((Int) ⊕ ((Unit) ⊕ Int)))) :=
  if v2 ≤ v3 then (some (.inr (.inl ()))) else (b_g ((0 ≤ v3 ∧ v3 < 4) ∧ (0 ≤ v2 ∧ v2 < 4)) (if (M 99 v3) = (M 99 v2) then (some (.inr (.inr (.inr (.inr 0))))) else (b_g (b_i32 (v3 + 1)) (some (.inl ((v3 + 1)))))))
theorem t_X5_fourAreLots_s29 {l : Launch} {E : bE} {Q : Int → Prop} {v1 : Int} {v2 : Int} {v3 : Int} {M : bM} (h : b_wp (F_X5_fourAreLots_s29 v1 v2 v3 M) (Sum.elim (A_X5_fourAreLots_29 l E Q v1 v2 M) (X_X5_fourAreLots_29 l E Q v1 v2 M))) : V l E xX5_fourAreLots (0, 0) 29 [(0, bR 3), (1, bI v1), (2, bI v2), (3, bI v3)] [] M (b_pIp M Q) := by
  unfold F_X5_fourAreLots_s29 at h
  refine v_iload_n (f := 3) 3 rfl dX5_fourAreLots_29 ?_
  refine v_iload_n (f := 2) 2 rfl dX5_fourAreLots_30 ?_
  refine v_icmp_ge (tgt := 57) dX5_fourAreLots_31 (by decide) (fun c6 => ?_) (fun c6 => ?_)
  · replace h := b_wp_t c6 h
    refine v_sub (ls2 := [(0, bR _), (1, bI _), (2, bI _)]) [0, 1, 2] rfl ?_
    exact h
  · replace h := b_wp_f c6 h
    obtain ⟨⟨g7, g8⟩, h⟩ := b_wp_g h
    refine v_aload_n (f := 0) 0 rfl dX5_fourAreLots_34 ?_
    refine v_getR (kf := 15) (kz := 15) rfl kd_3 rfl ⟨by decide, by decide⟩ rfl wf_5_63 dX5_fourAreLots_35 ?_
    refine v_iload_n (f := 3) 3 rfl dX5_fourAreLots_38 ?_
    refine v_iaload kd_99 g7 (by decide) dX5_fourAreLots_39 ?_
    refine v_aload_n (f := 0) 0 rfl dX5_fourAreLots_40 ?_
    refine v_getR (kf := 15) (kz := 15) rfl kd_3 rfl ⟨by decide, by decide⟩ rfl wf_5_63 dX5_fourAreLots_41 ?_
    refine v_iload_n (f := 2) 2 rfl dX5_fourAreLots_44 ?_
    refine v_iaload kd_99 g8 (by decide) dX5_fourAreLots_45 ?_
    refine v_icmp_ne (tgt := 51) dX5_fourAreLots_46 (by decide) (fun c9 => ?_) (fun c9 => ?_)
    · replace h := b_wp_f c9 h
      obtain ⟨g10, h⟩ := b_wp_g h
      refine v_iincN (ls' := [(3, bI _), (0, bR _), (1, bI _), (2, bI _)]) 3 rfl (by decide) g10 dX5_fourAreLots_51 rfl ?_
      refine v_goto (tgt := 29) dX5_fourAreLots_54 (by decide) ?_
      refine v_sub (ls2 := [(0, bR _), (1, bI _), (2, bI _), (3, bI _)]) [1, 2, 3, 0] rfl ?_
      exact h
    · replace h := b_wp_t c9 h
      refine v_iconst ⟨by decide, by decide⟩ dX5_fourAreLots_49 ?_
      refine v_zreturn rfl (Or.inl rfl) dX5_fourAreLots_50 ⟨by decide, by decide⟩ ?_
      exact ⟨_, rfl, rfl, h⟩
theorem l_X5_fourAreLots_29 {l : Launch} {E : bE} {Q : Int → Prop} {v1 : Int} {v2 : Int} {M : bM} {s : Int} (h : b_wp (b_loop (fun t => F_X5_fourAreLots_s29 v1 v2 t M) s) (X_X5_fourAreLots_29 l E Q v1 v2 M)) : A_X5_fourAreLots_29 l E Q v1 v2 M s := b_loop_wp (fun t h => t_X5_fourAreLots_s29 h) s h
noncomputable def F_X5_fourAreLots_b57 (v1 : Int) (v2 : Int) (M : bM) : Option ((Int) ⊕ ((Unit) ⊕ Int)) :=
  b_g (b_i32 (v2 + 1)) (some (.inl ((v2 + 1))))
theorem t_X5_fourAreLots_b57 {l : Launch} {E : bE} {Q : Int → Prop} {v1 : Int} {v2 : Int} {M : bM} (h : b_wp (F_X5_fourAreLots_b57 v1 v2 M) (Sum.elim (A_X5_fourAreLots_2 l E Q v1 M) (X_X5_fourAreLots_2 l E Q v1 M))) : V l E xX5_fourAreLots (0, 0) 57 [(0, bR 3), (1, bI v1), (2, bI v2)] [] M (b_pIp M Q) := by
  unfold F_X5_fourAreLots_b57 at h
  obtain ⟨g11, h⟩ := b_wp_g h
  refine v_iincN (ls' := [(2, bI _), (0, bR _), (1, bI _)]) 2 rfl (by decide) g11 dX5_fourAreLots_57 rfl ?_
  refine v_goto (tgt := 2) dX5_fourAreLots_60 (by decide) ?_
  refine v_sub (ls2 := [(0, bR _), (1, bI _), (2, bI _)]) [1, 2, 0] rfl ?_
  exact h
noncomputable def F_X5_fourAreLots_s2 (v1 : Int) (v2 : Int) (M : bM) : Option ((Int) ⊕ ((Unit) ⊕ Int)) :=
  if v1 ≤ v2 then (some (.inr (.inl ()))) else (if 4 ≤ v2 then (some (.inr (.inl ()))) else (b_g (0 ≤ v2 ∧ v2 < 4) (b_bind (F_X5_has (M 99 v2) M) (fun x4 => if x4 = 0 then (some (.inr (.inr 0))) else (b_bind (b_loop (fun t => F_X5_fourAreLots_s29 v1 v2 t M) (0)) (Sum.elim (fun t => F_X5_fourAreLots_b57 v1 v2 M) some))))))
theorem t_X5_fourAreLots_s2 {l : Launch} {E : bE} {Q : Int → Prop} {v1 : Int} {v2 : Int} {M : bM} (h : b_wp (F_X5_fourAreLots_s2 v1 v2 M) (Sum.elim (A_X5_fourAreLots_2 l E Q v1 M) (X_X5_fourAreLots_2 l E Q v1 M))) : V l E xX5_fourAreLots (0, 0) 2 [(0, bR 3), (1, bI v1), (2, bI v2)] [] M (b_pIp M Q) := by
  unfold F_X5_fourAreLots_s2 at h
  refine v_iload_n (f := 2) 2 rfl dX5_fourAreLots_2 ?_
  refine v_iload_n (f := 1) 1 rfl dX5_fourAreLots_3 ?_
  refine v_icmp_ge (tgt := 63) dX5_fourAreLots_4 (by decide) (fun c1 => ?_) (fun c1 => ?_)
  · replace h := b_wp_t c1 h
    refine v_sub (ls2 := []) [] rfl ?_
    exact h
  · replace h := b_wp_f c1 h
    refine v_iload_n (f := 2) 2 rfl dX5_fourAreLots_7 ?_
    refine v_iconst ⟨by decide, by decide⟩ dX5_fourAreLots_8 ?_
    refine v_icmp_ge (tgt := 63) dX5_fourAreLots_9 (by decide) (fun c2 => ?_) (fun c2 => ?_)
    · replace h := b_wp_t c2 h
      refine v_sub (ls2 := []) [] rfl ?_
      exact h
    · replace h := b_wp_f c2 h
      obtain ⟨g3, h⟩ := b_wp_g h
      refine v_aload_n (f := 0) 0 rfl dX5_fourAreLots_12 ?_
      refine v_aload_n (f := 0) 0 rfl dX5_fourAreLots_13 ?_
      refine v_getR (kf := 15) (kz := 15) rfl kd_3 rfl ⟨by decide, by decide⟩ rfl wf_5_63 dX5_fourAreLots_14 ?_
      refine v_iload_n (f := 2) 2 rfl dX5_fourAreLots_17 ?_
      refine v_iaload kd_99 g3 (by decide) dX5_fourAreLots_18 ?_
      refine v_cVIp (nA := 1) (As := [bI _]) (ix := 87) (cf_X5_has (b_wp_b h)) rfl kd_3 rfl rfl wc_X5_has wm_5_87 wi_X5_has ws_X5_has wn_5 ⟨by decide, by decide, by decide⟩ rfl ⟨by decide, by decide⟩ ⟨by decide, by decide⟩ (Nat.le_of_ble_eq_true rfl) dX5_fourAreLots_19 (fun x4 h => ?_)
      refine v_if_ne (tgt := 27) dX5_fourAreLots_22 (by decide) (fun c5 => ?_) (fun c5 => ?_)
      · replace h := b_wp_f c5 h
        refine v_iconst ⟨by decide, by decide⟩ dX5_fourAreLots_27 ?_
        refine v_istore_n (g := 3) (i := 3) (ls' := [(3, bI _), (0, bR _), (1, bI _), (2, bI _)]) rfl (by decide) dX5_fourAreLots_28 rfl ?_
        refine v_sub (ls2 := [(0, bR _), (1, bI _), (2, bI _), (3, bI _)]) [1, 2, 3, 0] rfl ?_
        refine l_X5_fourAreLots_29 (b_wp_m (fun t h => ?_) (b_wp_b h))
        cases t with
        | inr o => exact h
        | inl t =>
          show V l E xX5_fourAreLots (0, 0) 57 [(0, bR 3), (1, bI _), (2, bI _)] [] _ (b_pIp M Q)
          replace h := b_wp_inl h
          exact t_X5_fourAreLots_b57 h
      · replace h := b_wp_t c5 h
        refine v_iconst ⟨by decide, by decide⟩ dX5_fourAreLots_25 ?_
        refine v_zreturn rfl (Or.inl rfl) dX5_fourAreLots_26 ⟨by decide, by decide⟩ ?_
        exact ⟨_, rfl, rfl, h⟩
theorem l_X5_fourAreLots_2 {l : Launch} {E : bE} {Q : Int → Prop} {v1 : Int} {M : bM} {s : Int} (h : b_wp (b_loop (fun t => F_X5_fourAreLots_s2 v1 t M) s) (X_X5_fourAreLots_2 l E Q v1 M)) : A_X5_fourAreLots_2 l E Q v1 M s := b_loop_wp (fun t h => t_X5_fourAreLots_s2 h) s h
noncomputable def F_X5_fourAreLots_b63 (M : bM) : Option (Int) :=
  some 1
theorem t_X5_fourAreLots_b63 {l : Launch} {E : bE} {Q : Int → Prop} {M : bM} (h : b_wp (F_X5_fourAreLots_b63 M) (Q)) : V l E xX5_fourAreLots (0, 0) 63 [] [] M (b_pIp M Q) := by
  unfold F_X5_fourAreLots_b63 at h
  refine v_iconst ⟨by decide, by decide⟩ dX5_fourAreLots_63 ?_
  refine v_zreturn rfl (Or.inr rfl) dX5_fourAreLots_64 ⟨by decide, by decide⟩ ?_
  exact ⟨_, rfl, rfl, h⟩
noncomputable def F_X5_fourAreLots (v1 : Int) (M : bM) : Option (Int) :=
  b_bind (b_loop (fun t => F_X5_fourAreLots_s2 v1 t M) (0)) (Sum.elim (fun t => F_X5_fourAreLots_b63 M) some)
theorem t_X5_fourAreLots {l : Launch} {E : bE} {Q : Int → Prop} {v1 : Int} {M : bM} (h : b_wp (F_X5_fourAreLots v1 M) (Q)) : V l E xX5_fourAreLots (0, 0) 0 [(0, bR 3), (1, bI v1)] [] M (b_pIp M Q) := by
  unfold F_X5_fourAreLots at h
  refine v_iconst ⟨by decide, by decide⟩ dX5_fourAreLots_0 ?_
  refine v_istore_n (g := 2) (i := 2) (ls' := [(2, bI _), (0, bR _), (1, bI _)]) rfl (by decide) dX5_fourAreLots_1 rfl ?_
  refine v_sub (ls2 := [(0, bR _), (1, bI _), (2, bI _)]) [1, 2, 0] rfl ?_
  refine l_X5_fourAreLots_2 (b_wp_m (fun t h => ?_) (b_wp_b h))
  cases t with
  | inr o => exact h
  | inl t =>
    show V l E xX5_fourAreLots (0, 0) 63 [] [] _ (b_pIp M Q)
    replace h := b_wp_inl h
    exact t_X5_fourAreLots_b63 h
theorem cf_X5_fourAreLots {l : Launch} {E : bE} {M : bM} {v1 : Int} {Q : Int → Prop} (h : b_wp (F_X5_fourAreLots v1 M) Q) : b_C l E xX5_fourAreLots yX5_fourAreLots [bR 3, bI v1] M (b_pIp M Q) := b_met (by decide) ⟨rfl, rfl⟩ (Nat.le_of_ble_eq_true rfl) (fun _ _ => t_X5_fourAreLots h)
abbrev xX5_fourMayEnd : bX := ("BurntHall$Lots", prog_7_method_9_code, 4, (Option.some Jvm.ClassFile.FieldType.boolean), b_rm 3 0 0, 0, "fourMayEnd")
abbrev yX5_fourMayEnd : MethodName := ⟨"BurntHall$Lots", "fourMayEnd", "(II)Z"⟩
theorem dX5_fourMayEnd_0 : decode prog_7_method_9_code 0 = .ok (.iconst 0, 1) := by decide +kernel
theorem dX5_fourMayEnd_1 : decode prog_7_method_9_code 1 = .ok (.istore_n 3, 1) := by decide +kernel
theorem dX5_fourMayEnd_2 : decode prog_7_method_9_code 2 = .ok (.iload_n 3, 1) := by decide +kernel
theorem dX5_fourMayEnd_3 : decode prog_7_method_9_code 3 = .ok (.iload_n 1, 1) := by decide +kernel
theorem dX5_fourMayEnd_4 : decode prog_7_method_9_code 4 = .ok (.if_icmp .ge 30, 3) := by decide +kernel
theorem dX5_fourMayEnd_7 : decode prog_7_method_9_code 7 = .ok (.iload_n 3, 1) := by decide +kernel
theorem dX5_fourMayEnd_8 : decode prog_7_method_9_code 8 = .ok (.iconst 4, 1) := by decide +kernel
theorem dX5_fourMayEnd_9 : decode prog_7_method_9_code 9 = .ok (.if_icmp .ge 25, 3) := by decide +kernel
theorem dX5_fourMayEnd_12 : decode prog_7_method_9_code 12 = .ok (.aload_n 0, 1) := by decide +kernel
theorem dX5_fourMayEnd_13 : decode prog_7_method_9_code 13 = .ok (.aload_n 0, 1) := by decide +kernel
theorem dX5_fourMayEnd_14 : decode prog_7_method_9_code 14 = .ok (.getfield 63, 3) := by decide +kernel
theorem dX5_fourMayEnd_17 : decode prog_7_method_9_code 17 = .ok (.iload_n 3, 1) := by decide +kernel
theorem dX5_fourMayEnd_18 : decode prog_7_method_9_code 18 = .ok (.iaload, 1) := by decide +kernel
theorem dX5_fourMayEnd_19 : decode prog_7_method_9_code 19 = .ok (.iload_n 2, 1) := by decide +kernel
theorem dX5_fourMayEnd_20 : decode prog_7_method_9_code 20 = .ok (.invokevirtual 90, 3) := by decide +kernel
theorem dX5_fourMayEnd_23 : decode prog_7_method_9_code 23 = .ok (.ifCond .ne 5, 3) := by decide +kernel
theorem dX5_fourMayEnd_26 : decode prog_7_method_9_code 26 = .ok (.iconst 0, 1) := by decide +kernel
theorem dX5_fourMayEnd_27 : decode prog_7_method_9_code 27 = .ok (.ireturn, 1) := by decide +kernel
theorem dX5_fourMayEnd_28 : decode prog_7_method_9_code 28 = .ok (.iinc 3 1, 3) := by decide +kernel
theorem dX5_fourMayEnd_31 : decode prog_7_method_9_code 31 = .ok (.goto (-29), 3) := by decide +kernel
theorem dX5_fourMayEnd_34 : decode prog_7_method_9_code 34 = .ok (.iconst 1, 1) := by decide +kernel
theorem dX5_fourMayEnd_35 : decode prog_7_method_9_code 35 = .ok (.ireturn, 1) := by decide +kernel
abbrev A_X5_fourMayEnd_2 (l : Launch) (E : bE) (Q : Int → Prop) (v1 : Int) (v2 : Int) (M : bM) : (Int) → Prop := (fun t : Int => V l E xX5_fourMayEnd (0, 0) 2 [(0, bR 3), (1, bI v1), (2, bI v2), (3, bI t)] [] M (b_pIp M Q))
abbrev X_X5_fourMayEnd_2 (l : Launch) (E : bE) (Q : Int → Prop) (v1 : Int) (v2 : Int) (M : bM) : ((Unit) ⊕ Int) → Prop := (Sum.elim (fun t : Unit => V l E xX5_fourMayEnd (0, 0) 34 [] [] M (b_pIp M Q)) Q)
noncomputable def F_X5_fourMayEnd_s2 (v1 : Int) (v2 : Int) (v3 : Int) (M : bM) : Option ((Int) ⊕ ((Unit) ⊕ Int)) :=
  if v1 ≤ v3 then (some (.inr (.inl ()))) else (if 4 ≤ v3 then (some (.inr (.inl ()))) else (b_g (0 ≤ v3 ∧ v3 < 4) (b_bind (F_X5_mayEnd (M 99 v3) v2 M) (fun x4 => if x4 = 0 then (some (.inr (.inr 0))) else (b_g (b_i32 (v3 + 1)) (some (.inl ((v3 + 1)))))))))
theorem t_X5_fourMayEnd_s2 {l : Launch} {E : bE} {Q : Int → Prop} {v1 : Int} {v2 : Int} {v3 : Int} {M : bM} (h : b_wp (F_X5_fourMayEnd_s2 v1 v2 v3 M) (Sum.elim (A_X5_fourMayEnd_2 l E Q v1 v2 M) (X_X5_fourMayEnd_2 l E Q v1 v2 M))) : V l E xX5_fourMayEnd (0, 0) 2 [(0, bR 3), (1, bI v1), (2, bI v2), (3, bI v3)] [] M (b_pIp M Q) := by
  unfold F_X5_fourMayEnd_s2 at h
  refine v_iload_n (f := 3) 3 rfl dX5_fourMayEnd_2 ?_
  refine v_iload_n (f := 1) 1 rfl dX5_fourMayEnd_3 ?_
  refine v_icmp_ge (tgt := 34) dX5_fourMayEnd_4 (by decide) (fun c1 => ?_) (fun c1 => ?_)
  · replace h := b_wp_t c1 h
    refine v_sub (ls2 := []) [] rfl ?_
    exact h
  · replace h := b_wp_f c1 h
    refine v_iload_n (f := 3) 3 rfl dX5_fourMayEnd_7 ?_
    refine v_iconst ⟨by decide, by decide⟩ dX5_fourMayEnd_8 ?_
    refine v_icmp_ge (tgt := 34) dX5_fourMayEnd_9 (by decide) (fun c2 => ?_) (fun c2 => ?_)
    · replace h := b_wp_t c2 h
      refine v_sub (ls2 := []) [] rfl ?_
      exact h
    · replace h := b_wp_f c2 h
      obtain ⟨g3, h⟩ := b_wp_g h
      refine v_aload_n (f := 0) 0 rfl dX5_fourMayEnd_12 ?_
      refine v_aload_n (f := 0) 0 rfl dX5_fourMayEnd_13 ?_
      refine v_getR (kf := 15) (kz := 15) rfl kd_3 rfl ⟨by decide, by decide⟩ rfl wf_5_63 dX5_fourMayEnd_14 ?_
      refine v_iload_n (f := 3) 3 rfl dX5_fourMayEnd_17 ?_
      refine v_iaload kd_99 g3 (by decide) dX5_fourMayEnd_18 ?_
      refine v_iload_n (f := 2) 2 rfl dX5_fourMayEnd_19 ?_
      refine v_cVIp (nA := 2) (As := [bI _, bI _]) (ix := 90) (cf_X5_mayEnd (b_wp_b h)) rfl kd_3 rfl rfl wc_X5_mayEnd wm_5_90 wi_X5_mayEnd ws_X5_mayEnd wn_5 ⟨by decide, by decide, by decide⟩ rfl ⟨by decide, by decide⟩ ⟨by decide, by decide⟩ (Nat.le_of_ble_eq_true rfl) dX5_fourMayEnd_20 (fun x4 h => ?_)
      refine v_if_ne (tgt := 28) dX5_fourMayEnd_23 (by decide) (fun c5 => ?_) (fun c5 => ?_)
      · replace h := b_wp_f c5 h
        obtain ⟨g6, h⟩ := b_wp_g h
        refine v_iincN (ls' := [(3, bI _), (0, bR _), (1, bI _), (2, bI _)]) 3 rfl (by decide) g6 dX5_fourMayEnd_28 rfl ?_
        refine v_goto (tgt := 2) dX5_fourMayEnd_31 (by decide) ?_
        refine v_sub (ls2 := [(0, bR _), (1, bI _), (2, bI _), (3, bI _)]) [1, 2, 3, 0] rfl ?_
        exact h
      · replace h := b_wp_t c5 h
        refine v_iconst ⟨by decide, by decide⟩ dX5_fourMayEnd_26 ?_
        refine v_zreturn rfl (Or.inl rfl) dX5_fourMayEnd_27 ⟨by decide, by decide⟩ ?_
        exact ⟨_, rfl, rfl, h⟩
theorem l_X5_fourMayEnd_2 {l : Launch} {E : bE} {Q : Int → Prop} {v1 : Int} {v2 : Int} {M : bM} {s : Int} (h : b_wp (b_loop (fun t => F_X5_fourMayEnd_s2 v1 v2 t M) s) (X_X5_fourMayEnd_2 l E Q v1 v2 M)) : A_X5_fourMayEnd_2 l E Q v1 v2 M s := b_loop_wp (fun t h => t_X5_fourMayEnd_s2 h) s h
noncomputable def F_X5_fourMayEnd_b34 (M : bM) : Option (Int) :=
  some 1
theorem t_X5_fourMayEnd_b34 {l : Launch} {E : bE} {Q : Int → Prop} {M : bM} (h : b_wp (F_X5_fourMayEnd_b34 M) (Q)) : V l E xX5_fourMayEnd (0, 0) 34 [] [] M (b_pIp M Q) := by
  unfold F_X5_fourMayEnd_b34 at h
  refine v_iconst ⟨by decide, by decide⟩ dX5_fourMayEnd_34 ?_
  refine v_zreturn rfl (Or.inr rfl) dX5_fourMayEnd_35 ⟨by decide, by decide⟩ ?_
  exact ⟨_, rfl, rfl, h⟩
noncomputable def F_X5_fourMayEnd (v1 : Int) (v2 : Int) (M : bM) : Option (Int) :=
  b_bind (b_loop (fun t => F_X5_fourMayEnd_s2 v1 v2 t M) (0)) (Sum.elim (fun t => F_X5_fourMayEnd_b34 M) some)
theorem t_X5_fourMayEnd {l : Launch} {E : bE} {Q : Int → Prop} {v1 : Int} {v2 : Int} {M : bM} (h : b_wp (F_X5_fourMayEnd v1 v2 M) (Q)) : V l E xX5_fourMayEnd (0, 0) 0 [(0, bR 3), (1, bI v1), (2, bI v2)] [] M (b_pIp M Q) := by
  unfold F_X5_fourMayEnd at h
  refine v_iconst ⟨by decide, by decide⟩ dX5_fourMayEnd_0 ?_
  refine v_istore_n (g := 3) (i := 3) (ls' := [(3, bI _), (0, bR _), (1, bI _), (2, bI _)]) rfl (by decide) dX5_fourMayEnd_1 rfl ?_
  refine v_sub (ls2 := [(0, bR _), (1, bI _), (2, bI _), (3, bI _)]) [1, 2, 3, 0] rfl ?_
  refine l_X5_fourMayEnd_2 (b_wp_m (fun t h => ?_) (b_wp_b h))
  cases t with
  | inr o => exact h
  | inl t =>
    show V l E xX5_fourMayEnd (0, 0) 34 [] [] _ (b_pIp M Q)
    replace h := b_wp_inl h
    exact t_X5_fourMayEnd_b34 h
theorem cf_X5_fourMayEnd {l : Launch} {E : bE} {M : bM} {v1 : Int} {v2 : Int} {Q : Int → Prop} (h : b_wp (F_X5_fourMayEnd v1 v2 M) Q) : b_C l E xX5_fourMayEnd yX5_fourMayEnd [bR 3, bI v1, bI v2] M (b_pIp M Q) := b_met (by decide) ⟨rfl, rfl⟩ (Nat.le_of_ble_eq_true rfl) (fun _ _ => t_X5_fourMayEnd h)
abbrev xX5_unite : bX := ("BurntHall$Lots", prog_7_method_15_code, 9, (Option.some Jvm.ClassFile.FieldType.int), b_rm 2 0 0, 0, "unite")
abbrev yX5_unite : MethodName := ⟨"BurntHall$Lots", "unite", "(III)I"⟩
theorem dX5_unite_0 : decode prog_7_method_15_code 0 = .ok (.iconst 0, 1) := by decide +kernel
theorem dX5_unite_1 : decode prog_7_method_15_code 1 = .ok (.istore 4, 2) := by decide +kernel
theorem dX5_unite_3 : decode prog_7_method_15_code 3 = .ok (.lconst 0, 1) := by decide +kernel
theorem dX5_unite_4 : decode prog_7_method_15_code 4 = .ok (.lstore 5, 2) := by decide +kernel
theorem dX5_unite_6 : decode prog_7_method_15_code 6 = .ok (.iconst 0, 1) := by decide +kernel
theorem dX5_unite_7 : decode prog_7_method_15_code 7 = .ok (.istore 7, 2) := by decide +kernel
theorem dX5_unite_9 : decode prog_7_method_15_code 9 = .ok (.iload 7, 2) := by decide +kernel
theorem dX5_unite_11 : decode prog_7_method_15_code 11 = .ok (.iload_n 1, 1) := by decide +kernel
theorem dX5_unite_12 : decode prog_7_method_15_code 12 = .ok (.if_icmp .ge 65, 3) := by decide +kernel
theorem dX5_unite_15 : decode prog_7_method_15_code 15 = .ok (.iload 7, 2) := by decide +kernel
theorem dX5_unite_17 : decode prog_7_method_15_code 17 = .ok (.iconst 4, 1) := by decide +kernel
theorem dX5_unite_18 : decode prog_7_method_15_code 18 = .ok (.if_icmp .ge 59, 3) := by decide +kernel
theorem dX5_unite_21 : decode prog_7_method_15_code 21 = .ok (.aload_n 0, 1) := by decide +kernel
theorem dX5_unite_22 : decode prog_7_method_15_code 22 = .ok (.getfield 63, 3) := by decide +kernel
theorem dX5_unite_25 : decode prog_7_method_15_code 25 = .ok (.iload 7, 2) := by decide +kernel
theorem dX5_unite_27 : decode prog_7_method_15_code 27 = .ok (.iaload, 1) := by decide +kernel
theorem dX5_unite_28 : decode prog_7_method_15_code 28 = .ok (.istore 8, 2) := by decide +kernel
theorem dX5_unite_30 : decode prog_7_method_15_code 30 = .ok (.aload_n 0, 1) := by decide +kernel
theorem dX5_unite_31 : decode prog_7_method_15_code 31 = .ok (.iload 8, 2) := by decide +kernel
theorem dX5_unite_33 : decode prog_7_method_15_code 33 = .ok (.invokevirtual 87, 3) := by decide +kernel
theorem dX5_unite_36 : decode prog_7_method_15_code 36 = .ok (.ifCond .eq 35, 3) := by decide +kernel
theorem dX5_unite_39 : decode prog_7_method_15_code 39 = .ok (.iload 4, 2) := by decide +kernel
theorem dX5_unite_41 : decode prog_7_method_15_code 41 = .ok (.aload_n 0, 1) := by decide +kernel
theorem dX5_unite_42 : decode prog_7_method_15_code 42 = .ok (.getfield 23, 3) := by decide +kernel
theorem dX5_unite_45 : decode prog_7_method_15_code 45 = .ok (.iload 8, 2) := by decide +kernel
theorem dX5_unite_47 : decode prog_7_method_15_code 47 = .ok (.iaload, 1) := by decide +kernel
theorem dX5_unite_48 : decode prog_7_method_15_code 48 = .ok (.iadd, 1) := by decide +kernel
theorem dX5_unite_49 : decode prog_7_method_15_code 49 = .ok (.istore 4, 2) := by decide +kernel
theorem dX5_unite_51 : decode prog_7_method_15_code 51 = .ok (.lload 5, 2) := by decide +kernel
theorem dX5_unite_53 : decode prog_7_method_15_code 53 = .ok (.aload_n 0, 1) := by decide +kernel
theorem dX5_unite_54 : decode prog_7_method_15_code 54 = .ok (.getfield 39, 3) := by decide +kernel
theorem dX5_unite_57 : decode prog_7_method_15_code 57 = .ok (.iload 8, 2) := by decide +kernel
theorem dX5_unite_59 : decode prog_7_method_15_code 59 = .ok (.laload, 1) := by decide +kernel
theorem dX5_unite_60 : decode prog_7_method_15_code 60 = .ok (.lor, 1) := by decide +kernel
theorem dX5_unite_61 : decode prog_7_method_15_code 61 = .ok (.lstore 5, 2) := by decide +kernel
theorem dX5_unite_63 : decode prog_7_method_15_code 63 = .ok (.aload_n 0, 1) := by decide +kernel
theorem dX5_unite_64 : decode prog_7_method_15_code 64 = .ok (.getfield 30, 3) := by decide +kernel
theorem dX5_unite_67 : decode prog_7_method_15_code 67 = .ok (.iload 8, 2) := by decide +kernel
theorem dX5_unite_69 : decode prog_7_method_15_code 69 = .ok (.iload_n 2, 1) := by decide +kernel
theorem dX5_unite_70 : decode prog_7_method_15_code 70 = .ok (.iastore, 1) := by decide +kernel
theorem dX5_unite_71 : decode prog_7_method_15_code 71 = .ok (.iinc 7 1, 3) := by decide +kernel
theorem dX5_unite_74 : decode prog_7_method_15_code 74 = .ok (.goto (-65), 3) := by decide +kernel
theorem dX5_unite_77 : decode prog_7_method_15_code 77 = .ok (.aload_n 0, 1) := by decide +kernel
theorem dX5_unite_78 : decode prog_7_method_15_code 78 = .ok (.iload_n 3, 1) := by decide +kernel
theorem dX5_unite_79 : decode prog_7_method_15_code 79 = .ok (.iload_n 2, 1) := by decide +kernel
theorem dX5_unite_80 : decode prog_7_method_15_code 80 = .ok (.lload 5, 2) := by decide +kernel
theorem dX5_unite_82 : decode prog_7_method_15_code 82 = .ok (.invokevirtual 104, 3) := by decide +kernel
theorem dX5_unite_85 : decode prog_7_method_15_code 85 = .ok (.istore 7, 2) := by decide +kernel
theorem dX5_unite_87 : decode prog_7_method_15_code 87 = .ok (.aload_n 0, 1) := by decide +kernel
theorem dX5_unite_88 : decode prog_7_method_15_code 88 = .ok (.iload 7, 2) := by decide +kernel
theorem dX5_unite_90 : decode prog_7_method_15_code 90 = .ok (.invokevirtual 87, 3) := by decide +kernel
theorem dX5_unite_93 : decode prog_7_method_15_code 93 = .ok (.ifCond .eq 14, 3) := by decide +kernel
theorem dX5_unite_96 : decode prog_7_method_15_code 96 = .ok (.aload_n 0, 1) := by decide +kernel
theorem dX5_unite_97 : decode prog_7_method_15_code 97 = .ok (.getfield 36, 3) := by decide +kernel
theorem dX5_unite_100 : decode prog_7_method_15_code 100 = .ok (.iload 7, 2) := by decide +kernel
theorem dX5_unite_102 : decode prog_7_method_15_code 102 = .ok (.iload 4, 2) := by decide +kernel
theorem dX5_unite_104 : decode prog_7_method_15_code 104 = .ok (.iload_n 3, 1) := by decide +kernel
theorem dX5_unite_105 : decode prog_7_method_15_code 105 = .ok (.isub, 1) := by decide +kernel
theorem dX5_unite_106 : decode prog_7_method_15_code 106 = .ok (.iastore, 1) := by decide +kernel
theorem dX5_unite_107 : decode prog_7_method_15_code 107 = .ok (.iload 7, 2) := by decide +kernel
theorem dX5_unite_109 : decode prog_7_method_15_code 109 = .ok (.ireturn, 1) := by decide +kernel
abbrev A_X5_unite_9 (l : Launch) (E : bE) (Q : (Int × bM) → Prop) (v1 : Int) (v2 : Int) (v3 : Int) : (Int × Int × Int × bM) → Prop := (fun t : Int × Int × Int × bM => V l E xX5_unite (0, 0) 9 [(0, bR 3), (1, bI v1), (2, bI v2), (3, bI v3), (4, bI (t.1)), (5, bJ (t.2.1)), (7, bI (t.2.2.1))] [] t.2.2.2 (b_pI Q))
abbrev X_X5_unite_9 (l : Launch) (E : bE) (Q : (Int × bM) → Prop) (v1 : Int) (v2 : Int) (v3 : Int) : (Int × Int × bM) → Prop := (fun t : Int × Int × bM => V l E xX5_unite (0, 0) 77 [(0, bR 3), (2, bI v2), (3, bI v3), (4, bI (t.1)), (5, bJ (t.2.1))] [] t.2.2 (b_pI Q))
noncomputable def F_X5_unite_s9 (v1 : Int) (v2 : Int) (v3 : Int) (v4 : Int) (v5 : Int) (v7 : Int) (M : bM) : Option ((Int × Int × Int × bM) ⊕ (Int × Int × bM)) :=
  if v1 ≤ v7 then (some (.inr (v4, v5, M))) else (if 4 ≤ v7 then (some (.inr (v4, v5, M))) else (b_g (0 ≤ v7 ∧ v7 < 4) (b_bind (F_X5_has (M 99 v7) M) (fun x4 => if x4 = 0 then (b_g (b_i32 (v7 + 1)) (some (.inl (v4, v5, (v7 + 1), M)))) else (b_g ((0 ≤ (M 99 v7) ∧ (M 99 v7) < 60) ∧ (b_i32 (v4 + (M 86 (M 99 v7))))) (b_let ((v4 + (M 86 (M 99 v7)))) (fun y9 => b_g (0 ≤ (M 99 v7) ∧ (M 99 v7) < 60) (b_let ((j_or v5 (M 91 (M 99 v7)))) (fun y11 => b_g (0 ≤ (M 99 v7) ∧ (M 99 v7) < 60) (b_let (b_up M 88 (M 99 v7) v2) (fun M13 => b_g (b_i32 (v7 + 1)) (some (.inl (y9, y11, (v7 + 1), M13))))))))))))))
theorem t_X5_unite_s9 {l : Launch} {E : bE} {Q : (Int × bM) → Prop} {v1 : Int} {v2 : Int} {v3 : Int} {v4 : Int} {v5 : Int} {v7 : Int} {M : bM} (h : b_wp (F_X5_unite_s9 v1 v2 v3 v4 v5 v7 M) (Sum.elim (A_X5_unite_9 l E Q v1 v2 v3) (X_X5_unite_9 l E Q v1 v2 v3))) : V l E xX5_unite (0, 0) 9 [(0, bR 3), (1, bI v1), (2, bI v2), (3, bI v3), (4, bI v4), (5, bJ v5), (7, bI v7)] [] M (b_pI Q) := by
  unfold F_X5_unite_s9 at h
  refine v_iload (i := 7) 6 rfl dX5_unite_9 ?_
  refine v_iload_n (f := 1) 1 rfl dX5_unite_11 ?_
  refine v_icmp_ge (tgt := 77) dX5_unite_12 (by decide) (fun c1 => ?_) (fun c1 => ?_)
  · replace h := b_wp_t c1 h
    refine v_sub (ls2 := [(0, bR _), (2, bI _), (3, bI _), (4, bI _), (5, bJ _)]) [0, 2, 3, 4, 5] rfl ?_
    exact h
  · replace h := b_wp_f c1 h
    refine v_iload (i := 7) 6 rfl dX5_unite_15 ?_
    refine v_iconst ⟨by decide, by decide⟩ dX5_unite_17 ?_
    refine v_icmp_ge (tgt := 77) dX5_unite_18 (by decide) (fun c2 => ?_) (fun c2 => ?_)
    · replace h := b_wp_t c2 h
      refine v_sub (ls2 := [(0, bR _), (2, bI _), (3, bI _), (4, bI _), (5, bJ _)]) [0, 2, 3, 4, 5] rfl ?_
      exact h
    · replace h := b_wp_f c2 h
      obtain ⟨g3, h⟩ := b_wp_g h
      refine v_aload_n (f := 0) 0 rfl dX5_unite_21 ?_
      refine v_getR (kf := 15) (kz := 15) rfl kd_3 rfl ⟨by decide, by decide⟩ rfl wf_5_63 dX5_unite_22 ?_
      refine v_iload (i := 7) 6 rfl dX5_unite_25 ?_
      refine v_iaload kd_99 g3 (by decide) dX5_unite_27 ?_
      refine v_istore (i := 8) (ls' := [(8, bI _), (0, bR _), (1, bI _), (2, bI _), (3, bI _), (4, bI _), (5, bJ _), (7, bI _)]) (by decide) dX5_unite_28 rfl ?_
      refine v_aload_n (f := 0) 1 rfl dX5_unite_30 ?_
      refine v_iload (i := 8) 0 rfl dX5_unite_31 ?_
      refine v_cVIp (nA := 1) (As := [bI _]) (ix := 87) (cf_X5_has (b_wp_b h)) rfl kd_3 rfl rfl wc_X5_has wm_5_87 wi_X5_has ws_X5_has wn_5 ⟨by decide, by decide, by decide⟩ rfl ⟨by decide, by decide⟩ ⟨by decide, by decide⟩ (Nat.le_of_ble_eq_true rfl) dX5_unite_33 (fun x4 h => ?_)
      refine v_if_eq (tgt := 71) dX5_unite_36 (by decide) (fun c5 => ?_) (fun c5 => ?_)
      · replace h := b_wp_t c5 h
        obtain ⟨g6, h⟩ := b_wp_g h
        refine v_iincN (ls' := [(7, bI _), (8, bI _), (0, bR _), (1, bI _), (2, bI _), (3, bI _), (4, bI _), (5, bJ _)]) 7 rfl (by decide) g6 dX5_unite_71 rfl ?_
        refine v_goto (tgt := 9) dX5_unite_74 (by decide) ?_
        refine v_sub (ls2 := [(0, bR _), (1, bI _), (2, bI _), (3, bI _), (4, bI _), (5, bJ _), (7, bI _)]) [2, 3, 4, 5, 6, 7, 0] rfl ?_
        exact h
      · replace h := b_wp_f c5 h
        obtain ⟨⟨g7, g8⟩, h⟩ := b_wp_g h
        refine v_iload (i := 4) 5 rfl dX5_unite_39 ?_
        refine v_aload_n (f := 0) 1 rfl dX5_unite_41 ?_
        refine v_getR (kf := 2) (kz := 2) rfl kd_3 rfl ⟨by decide, by decide⟩ rfl wf_5_23 dX5_unite_42 ?_
        refine v_iload (i := 8) 0 rfl dX5_unite_45 ?_
        refine v_iaload kd_86 g7 (by decide) dX5_unite_47 ?_
        refine v_iaddN g8 dX5_unite_48 ?_
        replace h := b_wp_l h
        obtain ⟨g10, h⟩ := b_wp_g h
        refine v_istore (i := 4) (ls' := [(4, bI _), (8, bI _), (0, bR _), (1, bI _), (2, bI _), (3, bI _), (5, bJ _), (7, bI _)]) (by decide) dX5_unite_49 rfl ?_
        refine v_lload (i := 5) 6 rfl dX5_unite_51 ?_
        refine v_aload_n (f := 0) 2 rfl dX5_unite_53 ?_
        refine v_getR (kf := 7) (kz := 7) rfl kd_3 rfl ⟨by decide, by decide⟩ rfl wf_5_39 dX5_unite_54 ?_
        refine v_iload (i := 8) 1 rfl dX5_unite_57 ?_
        refine v_laload kd_91 g10 (by decide) dX5_unite_59 ?_
        refine v_lor (v := j_or _ _) rfl dX5_unite_60 ?_
        replace h := b_wp_l h
        obtain ⟨g12, h⟩ := b_wp_g h
        refine v_lstore (i := 5) (ls' := [(5, bJ _), (4, bI _), (8, bI _), (0, bR _), (1, bI _), (2, bI _), (3, bI _), (7, bI _)]) (by decide) dX5_unite_61 rfl ?_
        refine v_aload_n (f := 0) 3 rfl dX5_unite_63 ?_
        refine v_getR (kf := 4) (kz := 4) rfl kd_3 rfl ⟨by decide, by decide⟩ rfl wf_5_30 dX5_unite_64 ?_
        refine v_iload (i := 8) 2 rfl dX5_unite_67 ?_
        refine v_iload_n (f := 2) 5 rfl dX5_unite_69 ?_
        refine v_iastore kd_88 g12 (by decide) dX5_unite_70 ?_
        replace h := b_wp_l h
        obtain ⟨g14, h⟩ := b_wp_g h
        refine v_iincN (ls' := [(7, bI _), (5, bJ _), (4, bI _), (8, bI _), (0, bR _), (1, bI _), (2, bI _), (3, bI _)]) 7 rfl (by decide) g14 dX5_unite_71 rfl ?_
        refine v_goto (tgt := 9) dX5_unite_74 (by decide) ?_
        refine v_sub (ls2 := [(0, bR _), (1, bI _), (2, bI _), (3, bI _), (4, bI _), (5, bJ _), (7, bI _)]) [4, 5, 6, 7, 2, 1, 0] rfl ?_
        exact h
theorem l_X5_unite_9 {l : Launch} {E : bE} {Q : (Int × bM) → Prop} {v1 : Int} {v2 : Int} {v3 : Int} {s : Int × Int × Int × bM} (h : b_wp (b_loop (fun t => F_X5_unite_s9 v1 v2 v3 t.1 t.2.1 t.2.2.1 t.2.2.2) s) (X_X5_unite_9 l E Q v1 v2 v3)) : A_X5_unite_9 l E Q v1 v2 v3 s := b_loop_wp (fun t h => t_X5_unite_s9 h) s h
noncomputable def F_X5_unite_b77 (v2 : Int) (v3 : Int) (v4 : Int) (v5 : Int) (M : bM) : Option (Int × bM) :=
  b_bind (F_X5_add v3 v2 v5 M) (fun t => b_two t (fun x15 M16 => b_bind (F_X5_has x15 M16) (fun x17 => if x17 = 0 then (some (x15, M16)) else (b_g ((b_i32 (v4 - v3)) ∧ (0 ≤ x15 ∧ x15 < 60)) (b_let (b_up M16 90 x15 (v4 - v3)) (fun M21 => some (x15, M21)))))))
theorem t_X5_unite_b77 {l : Launch} {E : bE} {Q : (Int × bM) → Prop} {v2 : Int} {v3 : Int} {v4 : Int} {v5 : Int} {M : bM} (h : b_wp (F_X5_unite_b77 v2 v3 v4 v5 M) (Q)) : V l E xX5_unite (0, 0) 77 [(0, bR 3), (2, bI v2), (3, bI v3), (4, bI v4), (5, bJ v5)] [] M (b_pI Q) := by
  unfold F_X5_unite_b77 at h
  refine v_aload_n (f := 0) 0 rfl dX5_unite_77 ?_
  refine v_iload_n (f := 3) 2 rfl dX5_unite_78 ?_
  refine v_iload_n (f := 2) 1 rfl dX5_unite_79 ?_
  refine v_lload (i := 5) 4 rfl dX5_unite_80 ?_
  refine v_cVI (nA := 3) (As := [bI _, bI _, bJ _]) (ix := 104) (cf_X5_add (b_wp_b h)) rfl kd_3 rfl rfl wc_X5_add wm_5_104 wi_X5_add ws_X5_add wn_5 ⟨by decide, by decide, by decide⟩ rfl ⟨by decide, by decide⟩ ⟨by decide, by decide⟩ (Nat.le_of_ble_eq_true rfl) dX5_unite_82 (fun x15 M16 h => ?_)
  replace h := b_wp_two h
  refine v_istore (i := 7) (ls' := [(7, bI _), (0, bR _), (2, bI _), (3, bI _), (4, bI _), (5, bJ _)]) (by decide) dX5_unite_85 rfl ?_
  refine v_aload_n (f := 0) 1 rfl dX5_unite_87 ?_
  refine v_iload (i := 7) 0 rfl dX5_unite_88 ?_
  refine v_cVIp (nA := 1) (As := [bI _]) (ix := 87) (cf_X5_has (b_wp_b h)) rfl kd_3 rfl rfl wc_X5_has wm_5_87 wi_X5_has ws_X5_has wn_5 ⟨by decide, by decide, by decide⟩ rfl ⟨by decide, by decide⟩ ⟨by decide, by decide⟩ (Nat.le_of_ble_eq_true rfl) dX5_unite_90 (fun x17 h => ?_)
  refine v_if_eq (tgt := 107) dX5_unite_93 (by decide) (fun c18 => ?_) (fun c18 => ?_)
  · replace h := b_wp_t c18 h
    refine v_iload (i := 7) 0 rfl dX5_unite_107 ?_
    refine v_ireturn rfl dX5_unite_109 ⟨by decide, by decide⟩ ?_
    exact ⟨_, rfl, h⟩
  · replace h := b_wp_f c18 h
    obtain ⟨⟨g19, g20⟩, h⟩ := b_wp_g h
    refine v_aload_n (f := 0) 1 rfl dX5_unite_96 ?_
    refine v_getR (kf := 6) (kz := 6) rfl kd_3 rfl ⟨by decide, by decide⟩ rfl wf_5_36 dX5_unite_97 ?_
    refine v_iload (i := 7) 0 rfl dX5_unite_100 ?_
    refine v_iload (i := 4) 4 rfl dX5_unite_102 ?_
    refine v_iload_n (f := 3) 3 rfl dX5_unite_104 ?_
    refine v_isubN g19 dX5_unite_105 ?_
    refine v_iastore kd_90 g20 (by decide) dX5_unite_106 ?_
    replace h := b_wp_l h
    refine v_iload (i := 7) 0 rfl dX5_unite_107 ?_
    refine v_ireturn rfl dX5_unite_109 ⟨by decide, by decide⟩ ?_
    exact ⟨_, rfl, h⟩
noncomputable def F_X5_unite (v1 : Int) (v2 : Int) (v3 : Int) (M : bM) : Option (Int × bM) :=
  b_bind (b_loop (fun t => F_X5_unite_s9 v1 v2 v3 t.1 t.2.1 t.2.2.1 t.2.2.2) (0, 0, 0, M)) (fun t => F_X5_unite_b77 v2 v3 (t.1) (t.2.1) (t.2.2))
theorem t_X5_unite {l : Launch} {E : bE} {Q : (Int × bM) → Prop} {v1 : Int} {v2 : Int} {v3 : Int} {M : bM} (h : b_wp (F_X5_unite v1 v2 v3 M) (Q)) : V l E xX5_unite (0, 0) 0 [(0, bR 3), (1, bI v1), (2, bI v2), (3, bI v3)] [] M (b_pI Q) := by
  unfold F_X5_unite at h
  refine v_iconst ⟨by decide, by decide⟩ dX5_unite_0 ?_
  refine v_istore (i := 4) (ls' := [(4, bI _), (0, bR _), (1, bI _), (2, bI _), (3, bI _)]) (by decide) dX5_unite_1 rfl ?_
  refine v_lconst0 dX5_unite_3 ?_
  refine v_lstore (i := 5) (ls' := [(5, bJ _), (4, bI _), (0, bR _), (1, bI _), (2, bI _), (3, bI _)]) (by decide) dX5_unite_4 rfl ?_
  refine v_iconst ⟨by decide, by decide⟩ dX5_unite_6 ?_
  refine v_istore (i := 7) (ls' := [(7, bI _), (5, bJ _), (4, bI _), (0, bR _), (1, bI _), (2, bI _), (3, bI _)]) (by decide) dX5_unite_7 rfl ?_
  refine v_sub (ls2 := [(0, bR _), (1, bI _), (2, bI _), (3, bI _), (4, bI _), (5, bJ _), (7, bI _)]) [3, 4, 5, 6, 2, 1, 0] rfl ?_
  refine l_X5_unite_9 (b_wp_m (fun t h => ?_) (b_wp_b h))
  show V l E xX5_unite (0, 0) 77 [(0, bR 3), (2, bI _), (3, bI _), (4, bI _), (5, bJ _)] [] _ (b_pI Q)
  exact t_X5_unite_b77 h
theorem cf_X5_unite {l : Launch} {E : bE} {M : bM} {v1 : Int} {v2 : Int} {v3 : Int} {Q : (Int × bM) → Prop} (h : b_wp (F_X5_unite v1 v2 v3 M) Q) : b_C l E xX5_unite yX5_unite [bR 3, bI v1, bI v2, bI v3] M (b_pI Q) := b_met (by decide) ⟨rfl, rfl⟩ (Nat.le_of_ble_eq_true rfl) (fun _ _ => t_X5_unite h)
abbrev xX11_join : bX := ("BurntHall", prog_1_method_16_code, 8, (Option.some Jvm.ClassFile.FieldType.int), b_rm 4 0 0, 0, "join")
abbrev yX11_join : MethodName := ⟨"BurntHall", "join", "(IIIIIII)I"⟩
theorem dX11_join_0 : decode prog_1_method_16_code 0 = .ok (.iload_n 1, 1) := by decide +kernel
theorem dX11_join_1 : decode prog_1_method_16_code 1 = .ok (.iconst 2, 1) := by decide +kernel
theorem dX11_join_2 : decode prog_1_method_16_code 2 = .ok (.if_icmp .lt 24, 3) := by decide +kernel
theorem dX11_join_5 : decode prog_1_method_16_code 5 = .ok (.iload_n 1, 1) := by decide +kernel
theorem dX11_join_6 : decode prog_1_method_16_code 6 = .ok (.iconst 4, 1) := by decide +kernel
theorem dX11_join_7 : decode prog_1_method_16_code 7 = .ok (.if_icmp .gt 19, 3) := by decide +kernel
theorem dX11_join_10 : decode prog_1_method_16_code 10 = .ok (.iload 6, 2) := by decide +kernel
theorem dX11_join_12 : decode prog_1_method_16_code 12 = .ok (.invokestatic 102, 3) := by decide +kernel
theorem dX11_join_15 : decode prog_1_method_16_code 15 = .ok (.ifCond .eq 11, 3) := by decide +kernel
theorem dX11_join_18 : decode prog_1_method_16_code 18 = .ok (.iload 7, 2) := by decide +kernel
theorem dX11_join_20 : decode prog_1_method_16_code 20 = .ok (.invokestatic 136, 3) := by decide +kernel
theorem dX11_join_23 : decode prog_1_method_16_code 23 = .ok (.ifCond .ne 6, 3) := by decide +kernel
theorem dX11_join_26 : decode prog_1_method_16_code 26 = .ok (.bipush (-2), 2) := by decide +kernel
theorem dX11_join_28 : decode prog_1_method_16_code 28 = .ok (.ireturn, 1) := by decide +kernel
theorem dX11_join_29 : decode prog_1_method_16_code 29 = .ok (.aload_n 0, 1) := by decide +kernel
theorem dX11_join_30 : decode prog_1_method_16_code 30 = .ok (.getfield 26, 3) := by decide +kernel
theorem dX11_join_33 : decode prog_1_method_16_code 33 = .ok (.iload_n 2, 1) := by decide +kernel
theorem dX11_join_34 : decode prog_1_method_16_code 34 = .ok (.iload_n 3, 1) := by decide +kernel
theorem dX11_join_35 : decode prog_1_method_16_code 35 = .ok (.iload 4, 2) := by decide +kernel
theorem dX11_join_37 : decode prog_1_method_16_code 37 = .ok (.iload 5, 2) := by decide +kernel
theorem dX11_join_39 : decode prog_1_method_16_code 39 = .ok (.invokevirtual 147, 3) := by decide +kernel
theorem dX11_join_42 : decode prog_1_method_16_code 42 = .ok (.aload_n 0, 1) := by decide +kernel
theorem dX11_join_43 : decode prog_1_method_16_code 43 = .ok (.getfield 26, 3) := by decide +kernel
theorem dX11_join_46 : decode prog_1_method_16_code 46 = .ok (.iload_n 1, 1) := by decide +kernel
theorem dX11_join_47 : decode prog_1_method_16_code 47 = .ok (.invokevirtual 161, 3) := by decide +kernel
theorem dX11_join_50 : decode prog_1_method_16_code 50 = .ok (.ifCond .ne 6, 3) := by decide +kernel
theorem dX11_join_53 : decode prog_1_method_16_code 53 = .ok (.bipush (-2), 2) := by decide +kernel
theorem dX11_join_55 : decode prog_1_method_16_code 55 = .ok (.ireturn, 1) := by decide +kernel
theorem dX11_join_56 : decode prog_1_method_16_code 56 = .ok (.aload_n 0, 1) := by decide +kernel
theorem dX11_join_57 : decode prog_1_method_16_code 57 = .ok (.getfield 26, 3) := by decide +kernel
theorem dX11_join_60 : decode prog_1_method_16_code 60 = .ok (.iload_n 1, 1) := by decide +kernel
theorem dX11_join_61 : decode prog_1_method_16_code 61 = .ok (.iload 6, 2) := by decide +kernel
theorem dX11_join_63 : decode prog_1_method_16_code 63 = .ok (.invokevirtual 164, 3) := by decide +kernel
theorem dX11_join_66 : decode prog_1_method_16_code 66 = .ok (.ifCond .ne 6, 3) := by decide +kernel
theorem dX11_join_69 : decode prog_1_method_16_code 69 = .ok (.bipush (-4), 2) := by decide +kernel
theorem dX11_join_71 : decode prog_1_method_16_code 71 = .ok (.ireturn, 1) := by decide +kernel
theorem dX11_join_72 : decode prog_1_method_16_code 72 = .ok (.aload_n 0, 1) := by decide +kernel
theorem dX11_join_73 : decode prog_1_method_16_code 73 = .ok (.getfield 26, 3) := by decide +kernel
theorem dX11_join_76 : decode prog_1_method_16_code 76 = .ok (.invokevirtual 139, 3) := by decide +kernel
theorem dX11_join_79 : decode prog_1_method_16_code 79 = .ok (.iconst 1, 1) := by decide +kernel
theorem dX11_join_80 : decode prog_1_method_16_code 80 = .ok (.if_icmp .ge 6, 3) := by decide +kernel
theorem dX11_join_83 : decode prog_1_method_16_code 83 = .ok (.bipush (-3), 2) := by decide +kernel
theorem dX11_join_85 : decode prog_1_method_16_code 85 = .ok (.ireturn, 1) := by decide +kernel
theorem dX11_join_86 : decode prog_1_method_16_code 86 = .ok (.aload_n 0, 1) := by decide +kernel
theorem dX11_join_87 : decode prog_1_method_16_code 87 = .ok (.getfield 51, 3) := by decide +kernel
theorem dX11_join_90 : decode prog_1_method_16_code 90 = .ok (.invokevirtual 113, 3) := by decide +kernel
theorem dX11_join_93 : decode prog_1_method_16_code 93 = .ok (.aload_n 0, 1) := by decide +kernel
theorem dX11_join_94 : decode prog_1_method_16_code 94 = .ok (.getfield 26, 3) := by decide +kernel
theorem dX11_join_97 : decode prog_1_method_16_code 97 = .ok (.iload_n 1, 1) := by decide +kernel
theorem dX11_join_98 : decode prog_1_method_16_code 98 = .ok (.iload 6, 2) := by decide +kernel
theorem dX11_join_100 : decode prog_1_method_16_code 100 = .ok (.iload 7, 2) := by decide +kernel
theorem dX11_join_102 : decode prog_1_method_16_code 102 = .ok (.invokevirtual 167, 3) := by decide +kernel
theorem dX11_join_105 : decode prog_1_method_16_code 105 = .ok (.ireturn, 1) := by decide +kernel
noncomputable def F_X11_join (v1 : Int) (v2 : Int) (v3 : Int) (v4 : Int) (v5 : Int) (v6 : Int) (v7 : Int) (M : bM) : Option (Int × bM) :=
  if v1 < 2 then (some ((-2), M)) else (if 4 < v1 then (some ((-2), M)) else (b_bind (F_X11_isDay v6 M) (fun x3 => if x3 = 0 then (some ((-2), M)) else (b_bind (F_X5_isFeet v7 M) (fun x5 => if x5 = 0 then (some ((-2), M)) else (b_bind (F_X5_four v2 v3 v4 v5 M) (fun M7 => b_bind (F_X5_fourAreLots v1 M7) (fun x8 => if x8 = 0 then (some ((-2), M7)) else (b_bind (F_X5_fourMayEnd v1 v6 M7) (fun x10 => if x10 = 0 then (some ((-4), M7)) else (b_bind (F_X5_room M7) (fun x12 => if 1 ≤ x12 then (b_bind (F_X4_forget M7) (fun M14 => b_bind (F_X5_unite v1 v6 v7 M14) (fun t => b_two t (fun x15 M16 => some (x15, M16))))) else (some ((-3), M7))))))))))))))
theorem t_X11_join {l : Launch} {E : bE} {Q : (Int × bM) → Prop} {v1 : Int} {v2 : Int} {v3 : Int} {v4 : Int} {v5 : Int} {v6 : Int} {v7 : Int} {M : bM} (h : b_wp (F_X11_join v1 v2 v3 v4 v5 v6 v7 M) (Q)) : V l E xX11_join (0, 0) 0 [(0, bR 0), (1, bI v1), (2, bI v2), (3, bI v3), (4, bI v4), (5, bI v5), (6, bI v6), (7, bI v7)] [] M (b_pI Q) := by
  unfold F_X11_join at h
  refine v_iload_n (f := 1) 1 rfl dX11_join_0 ?_
  refine v_iconst ⟨by decide, by decide⟩ dX11_join_1 ?_
  refine v_icmp_lt (tgt := 26) dX11_join_2 (by decide) (fun c1 => ?_) (fun c1 => ?_)
  · replace h := b_wp_t c1 h
    refine v_bipush ⟨by decide, by decide⟩ (by decide) dX11_join_26 ?_
    refine v_ireturn rfl dX11_join_28 ⟨by decide, by decide⟩ ?_
    exact ⟨_, rfl, h⟩
  · replace h := b_wp_f c1 h
    refine v_iload_n (f := 1) 1 rfl dX11_join_5 ?_
    refine v_iconst ⟨by decide, by decide⟩ dX11_join_6 ?_
    refine v_icmp_gt (tgt := 26) dX11_join_7 (by decide) (fun c2 => ?_) (fun c2 => ?_)
    · replace h := b_wp_t c2 h
      refine v_bipush ⟨by decide, by decide⟩ (by decide) dX11_join_26 ?_
      refine v_ireturn rfl dX11_join_28 ⟨by decide, by decide⟩ ?_
      exact ⟨_, rfl, h⟩
    · replace h := b_wp_f c2 h
      refine v_iload (i := 6) 6 rfl dX11_join_10 ?_
      refine v_cSIp (nA := 1) (As := [bI _]) (ix := 102) (cf_X11_isDay (b_wp_b h)) rfl wc_X11_isDay wm_11_102 wi_X11_isDay wn_11 ⟨by decide, by decide, by decide⟩ rfl ⟨by decide, by decide⟩ ⟨by decide, by decide⟩ (Nat.le_of_ble_eq_true rfl) dX11_join_12 (fun x3 h => ?_)
      refine v_if_eq (tgt := 26) dX11_join_15 (by decide) (fun c4 => ?_) (fun c4 => ?_)
      · replace h := b_wp_t c4 h
        refine v_bipush ⟨by decide, by decide⟩ (by decide) dX11_join_26 ?_
        refine v_ireturn rfl dX11_join_28 ⟨by decide, by decide⟩ ?_
        exact ⟨_, rfl, h⟩
      · replace h := b_wp_f c4 h
        refine v_iload (i := 7) 7 rfl dX11_join_18 ?_
        refine v_cSIp (nA := 1) (As := [bI _]) (ix := 136) (cf_X5_isFeet (b_wp_b h)) rfl wc_X5_isFeet wm_11_136 wi_X5_isFeet wn_5 ⟨by decide, by decide, by decide⟩ rfl ⟨by decide, by decide⟩ ⟨by decide, by decide⟩ (Nat.le_of_ble_eq_true rfl) dX11_join_20 (fun x5 h => ?_)
        refine v_if_ne (tgt := 29) dX11_join_23 (by decide) (fun c6 => ?_) (fun c6 => ?_)
        · replace h := b_wp_f c6 h
          refine v_aload_n (f := 0) 0 rfl dX11_join_29 ?_
          refine v_getR (kf := 2) (kz := 2) rfl kd_0 rfl ⟨by decide, by decide⟩ rfl wf_11_26 dX11_join_30 ?_
          refine v_iload_n (f := 2) 2 rfl dX11_join_33 ?_
          refine v_iload_n (f := 3) 3 rfl dX11_join_34 ?_
          refine v_iload (i := 4) 4 rfl dX11_join_35 ?_
          refine v_iload (i := 5) 5 rfl dX11_join_37 ?_
          refine v_cVV (nA := 4) (As := [bI _, bI _, bI _, bI _]) (ix := 147) (cf_X5_four (b_wp_b h)) rfl kd_3 rfl rfl wc_X5_four wm_11_147 wi_X5_four ws_X5_four wn_5 ⟨by decide, by decide, by decide⟩ rfl ⟨by decide, by decide⟩ ⟨by decide, by decide⟩ (Nat.le_of_ble_eq_true rfl) dX11_join_39 (fun M7 h => ?_)
          refine v_aload_n (f := 0) 0 rfl dX11_join_42 ?_
          refine v_getR (kf := 2) (kz := 2) rfl kd_0 rfl ⟨by decide, by decide⟩ rfl wf_11_26 dX11_join_43 ?_
          refine v_iload_n (f := 1) 1 rfl dX11_join_46 ?_
          refine v_cVIp (nA := 1) (As := [bI _]) (ix := 161) (cf_X5_fourAreLots (b_wp_b h)) rfl kd_3 rfl rfl wc_X5_fourAreLots wm_11_161 wi_X5_fourAreLots ws_X5_fourAreLots wn_5 ⟨by decide, by decide, by decide⟩ rfl ⟨by decide, by decide⟩ ⟨by decide, by decide⟩ (Nat.le_of_ble_eq_true rfl) dX11_join_47 (fun x8 h => ?_)
          refine v_if_ne (tgt := 56) dX11_join_50 (by decide) (fun c9 => ?_) (fun c9 => ?_)
          · replace h := b_wp_f c9 h
            refine v_aload_n (f := 0) 0 rfl dX11_join_56 ?_
            refine v_getR (kf := 2) (kz := 2) rfl kd_0 rfl ⟨by decide, by decide⟩ rfl wf_11_26 dX11_join_57 ?_
            refine v_iload_n (f := 1) 1 rfl dX11_join_60 ?_
            refine v_iload (i := 6) 6 rfl dX11_join_61 ?_
            refine v_cVIp (nA := 2) (As := [bI _, bI _]) (ix := 164) (cf_X5_fourMayEnd (b_wp_b h)) rfl kd_3 rfl rfl wc_X5_fourMayEnd wm_11_164 wi_X5_fourMayEnd ws_X5_fourMayEnd wn_5 ⟨by decide, by decide, by decide⟩ rfl ⟨by decide, by decide⟩ ⟨by decide, by decide⟩ (Nat.le_of_ble_eq_true rfl) dX11_join_63 (fun x10 h => ?_)
            refine v_if_ne (tgt := 72) dX11_join_66 (by decide) (fun c11 => ?_) (fun c11 => ?_)
            · replace h := b_wp_f c11 h
              refine v_aload_n (f := 0) 0 rfl dX11_join_72 ?_
              refine v_getR (kf := 2) (kz := 2) rfl kd_0 rfl ⟨by decide, by decide⟩ rfl wf_11_26 dX11_join_73 ?_
              refine v_cVIp (nA := 0) (As := []) (ix := 139) (cf_X5_room (b_wp_b h)) rfl kd_3 rfl rfl wc_X5_room wm_11_139 wi_X5_room ws_X5_room wn_5 ⟨by decide, by decide, by decide⟩ rfl ⟨by decide, by decide⟩ ⟨by decide, by decide⟩ (Nat.le_of_ble_eq_true rfl) dX11_join_76 (fun x12 h => ?_)
              refine v_iconst ⟨by decide, by decide⟩ dX11_join_79 ?_
              refine v_icmp_ge (tgt := 86) dX11_join_80 (by decide) (fun c13 => ?_) (fun c13 => ?_)
              · replace h := b_wp_t c13 h
                refine v_aload_n (f := 0) 0 rfl dX11_join_86 ?_
                refine v_getR (kf := 5) (kz := 5) rfl kd_0 rfl ⟨by decide, by decide⟩ rfl wf_11_51 dX11_join_87 ?_
                refine v_cVV (nA := 0) (As := []) (ix := 113) (cf_X4_forget (b_wp_b h)) rfl kd_6 rfl rfl wc_X4_forget wm_11_113 wi_X4_forget ws_X4_forget wn_4 ⟨by decide, by decide, by decide⟩ rfl ⟨by decide, by decide⟩ ⟨by decide, by decide⟩ (Nat.le_of_ble_eq_true rfl) dX11_join_90 (fun M14 h => ?_)
                refine v_aload_n (f := 0) 0 rfl dX11_join_93 ?_
                refine v_getR (kf := 2) (kz := 2) rfl kd_0 rfl ⟨by decide, by decide⟩ rfl wf_11_26 dX11_join_94 ?_
                refine v_iload_n (f := 1) 1 rfl dX11_join_97 ?_
                refine v_iload (i := 6) 6 rfl dX11_join_98 ?_
                refine v_iload (i := 7) 7 rfl dX11_join_100 ?_
                refine v_cVI (nA := 3) (As := [bI _, bI _, bI _]) (ix := 167) (cf_X5_unite (b_wp_b h)) rfl kd_3 rfl rfl wc_X5_unite wm_11_167 wi_X5_unite ws_X5_unite wn_5 ⟨by decide, by decide, by decide⟩ rfl ⟨by decide, by decide⟩ ⟨by decide, by decide⟩ (Nat.le_of_ble_eq_true rfl) dX11_join_102 (fun x15 M16 h => ?_)
                replace h := b_wp_two h
                refine v_ireturn rfl dX11_join_105 ⟨by decide, by decide⟩ ?_
                exact ⟨_, rfl, h⟩
              · replace h := b_wp_f c13 h
                refine v_bipush ⟨by decide, by decide⟩ (by decide) dX11_join_83 ?_
                refine v_ireturn rfl dX11_join_85 ⟨by decide, by decide⟩ ?_
                exact ⟨_, rfl, h⟩
            · replace h := b_wp_t c11 h
              refine v_bipush ⟨by decide, by decide⟩ (by decide) dX11_join_69 ?_
              refine v_ireturn rfl dX11_join_71 ⟨by decide, by decide⟩ ?_
              exact ⟨_, rfl, h⟩
          · replace h := b_wp_t c9 h
            refine v_bipush ⟨by decide, by decide⟩ (by decide) dX11_join_53 ?_
            refine v_ireturn rfl dX11_join_55 ⟨by decide, by decide⟩ ?_
            exact ⟨_, rfl, h⟩
        · replace h := b_wp_t c6 h
          refine v_bipush ⟨by decide, by decide⟩ (by decide) dX11_join_26 ?_
          refine v_ireturn rfl dX11_join_28 ⟨by decide, by decide⟩ ?_
          exact ⟨_, rfl, h⟩
theorem cf_X11_join {l : Launch} {E : bE} {M : bM} {v1 : Int} {v2 : Int} {v3 : Int} {v4 : Int} {v5 : Int} {v6 : Int} {v7 : Int} {Q : (Int × bM) → Prop} (h : b_wp (F_X11_join v1 v2 v3 v4 v5 v6 v7 M) Q) : b_C l E xX11_join yX11_join [bR 0, bI v1, bI v2, bI v3, bI v4, bI v5, bI v6, bI v7] M (b_pI Q) := b_met (by decide) ⟨rfl, rfl⟩ (Nat.le_of_ble_eq_true rfl) (fun _ _ => t_X11_join h)
abbrev xX5_tellAbout : bX := ("BurntHall$Lots", prog_7_method_16_code, 3, (Option.some Jvm.ClassFile.FieldType.int), b_rm 1 0 0, 0, "tellAbout")
abbrev yX5_tellAbout : MethodName := ⟨"BurntHall$Lots", "tellAbout", "(II)I"⟩
theorem dX5_tellAbout_0 : decode prog_7_method_16_code 0 = .ok (.iload_n 2, 1) := by decide +kernel
theorem dX5_tellAbout_1 : decode prog_7_method_16_code 1 = .ok (.tableswitch 103 0 7 #[47, 54, 61, 68, 75, 82, 89, 96], 47) := by decide +kernel
theorem dX5_tellAbout_48 : decode prog_7_method_16_code 48 = .ok (.aload_n 0, 1) := by decide +kernel
theorem dX5_tellAbout_49 : decode prog_7_method_16_code 49 = .ok (.getfield 23, 3) := by decide +kernel
theorem dX5_tellAbout_52 : decode prog_7_method_16_code 52 = .ok (.iload_n 1, 1) := by decide +kernel
theorem dX5_tellAbout_53 : decode prog_7_method_16_code 53 = .ok (.iaload, 1) := by decide +kernel
theorem dX5_tellAbout_54 : decode prog_7_method_16_code 54 = .ok (.ireturn, 1) := by decide +kernel
theorem dX5_tellAbout_55 : decode prog_7_method_16_code 55 = .ok (.aload_n 0, 1) := by decide +kernel
theorem dX5_tellAbout_56 : decode prog_7_method_16_code 56 = .ok (.getfield 27, 3) := by decide +kernel
theorem dX5_tellAbout_59 : decode prog_7_method_16_code 59 = .ok (.iload_n 1, 1) := by decide +kernel
theorem dX5_tellAbout_60 : decode prog_7_method_16_code 60 = .ok (.iaload, 1) := by decide +kernel
theorem dX5_tellAbout_61 : decode prog_7_method_16_code 61 = .ok (.ireturn, 1) := by decide +kernel
theorem dX5_tellAbout_62 : decode prog_7_method_16_code 62 = .ok (.aload_n 0, 1) := by decide +kernel
theorem dX5_tellAbout_63 : decode prog_7_method_16_code 63 = .ok (.getfield 30, 3) := by decide +kernel
theorem dX5_tellAbout_66 : decode prog_7_method_16_code 66 = .ok (.iload_n 1, 1) := by decide +kernel
theorem dX5_tellAbout_67 : decode prog_7_method_16_code 67 = .ok (.iaload, 1) := by decide +kernel
theorem dX5_tellAbout_68 : decode prog_7_method_16_code 68 = .ok (.ireturn, 1) := by decide +kernel
theorem dX5_tellAbout_69 : decode prog_7_method_16_code 69 = .ok (.aload_n 0, 1) := by decide +kernel
theorem dX5_tellAbout_70 : decode prog_7_method_16_code 70 = .ok (.getfield 33, 3) := by decide +kernel
theorem dX5_tellAbout_73 : decode prog_7_method_16_code 73 = .ok (.iload_n 1, 1) := by decide +kernel
theorem dX5_tellAbout_74 : decode prog_7_method_16_code 74 = .ok (.iaload, 1) := by decide +kernel
theorem dX5_tellAbout_75 : decode prog_7_method_16_code 75 = .ok (.ireturn, 1) := by decide +kernel
theorem dX5_tellAbout_76 : decode prog_7_method_16_code 76 = .ok (.aload_n 0, 1) := by decide +kernel
theorem dX5_tellAbout_77 : decode prog_7_method_16_code 77 = .ok (.getfield 36, 3) := by decide +kernel
theorem dX5_tellAbout_80 : decode prog_7_method_16_code 80 = .ok (.iload_n 1, 1) := by decide +kernel
theorem dX5_tellAbout_81 : decode prog_7_method_16_code 81 = .ok (.iaload, 1) := by decide +kernel
theorem dX5_tellAbout_82 : decode prog_7_method_16_code 82 = .ok (.ireturn, 1) := by decide +kernel
theorem dX5_tellAbout_83 : decode prog_7_method_16_code 83 = .ok (.aload_n 0, 1) := by decide +kernel
theorem dX5_tellAbout_84 : decode prog_7_method_16_code 84 = .ok (.getfield 48, 3) := by decide +kernel
theorem dX5_tellAbout_87 : decode prog_7_method_16_code 87 = .ok (.iload_n 1, 1) := by decide +kernel
theorem dX5_tellAbout_88 : decode prog_7_method_16_code 88 = .ok (.iaload, 1) := by decide +kernel
theorem dX5_tellAbout_89 : decode prog_7_method_16_code 89 = .ok (.ireturn, 1) := by decide +kernel
theorem dX5_tellAbout_90 : decode prog_7_method_16_code 90 = .ok (.aload_n 0, 1) := by decide +kernel
theorem dX5_tellAbout_91 : decode prog_7_method_16_code 91 = .ok (.getfield 51, 3) := by decide +kernel
theorem dX5_tellAbout_94 : decode prog_7_method_16_code 94 = .ok (.iload_n 1, 1) := by decide +kernel
theorem dX5_tellAbout_95 : decode prog_7_method_16_code 95 = .ok (.iaload, 1) := by decide +kernel
theorem dX5_tellAbout_96 : decode prog_7_method_16_code 96 = .ok (.ireturn, 1) := by decide +kernel
theorem dX5_tellAbout_97 : decode prog_7_method_16_code 97 = .ok (.aload_n 0, 1) := by decide +kernel
theorem dX5_tellAbout_98 : decode prog_7_method_16_code 98 = .ok (.getfield 54, 3) := by decide +kernel
theorem dX5_tellAbout_101 : decode prog_7_method_16_code 101 = .ok (.iload_n 1, 1) := by decide +kernel
theorem dX5_tellAbout_102 : decode prog_7_method_16_code 102 = .ok (.iaload, 1) := by decide +kernel
theorem dX5_tellAbout_103 : decode prog_7_method_16_code 103 = .ok (.ireturn, 1) := by decide +kernel
theorem dX5_tellAbout_104 : decode prog_7_method_16_code 104 = .ok (.iload_n 2, 1) := by decide +kernel
theorem dX5_tellAbout_105 : decode prog_7_method_16_code 105 = .ok (.bipush 10, 2) := by decide +kernel
theorem dX5_tellAbout_107 : decode prog_7_method_16_code 107 = .ok (.if_icmp .lt 37, 3) := by decide +kernel
theorem dX5_tellAbout_110 : decode prog_7_method_16_code 110 = .ok (.iload_n 2, 1) := by decide +kernel
theorem dX5_tellAbout_111 : decode prog_7_method_16_code 111 = .ok (.bipush 22, 2) := by decide +kernel
theorem dX5_tellAbout_113 : decode prog_7_method_16_code 113 = .ok (.if_icmp .ge 31, 3) := by decide +kernel
theorem dX5_tellAbout_116 : decode prog_7_method_16_code 116 = .ok (.iload_n 2, 1) := by decide +kernel
theorem dX5_tellAbout_117 : decode prog_7_method_16_code 117 = .ok (.bipush 10, 2) := by decide +kernel
theorem dX5_tellAbout_119 : decode prog_7_method_16_code 119 = .ok (.isub, 1) := by decide +kernel
theorem dX5_tellAbout_120 : decode prog_7_method_16_code 120 = .ok (.aload_n 0, 1) := by decide +kernel
theorem dX5_tellAbout_121 : decode prog_7_method_16_code 121 = .ok (.getfield 48, 3) := by decide +kernel
theorem dX5_tellAbout_124 : decode prog_7_method_16_code 124 = .ok (.iload_n 1, 1) := by decide +kernel
theorem dX5_tellAbout_125 : decode prog_7_method_16_code 125 = .ok (.iaload, 1) := by decide +kernel
theorem dX5_tellAbout_126 : decode prog_7_method_16_code 126 = .ok (.if_icmp .ge 18, 3) := by decide +kernel
theorem dX5_tellAbout_129 : decode prog_7_method_16_code 129 = .ok (.aload_n 0, 1) := by decide +kernel
theorem dX5_tellAbout_130 : decode prog_7_method_16_code 130 = .ok (.getfield 57, 3) := by decide +kernel
theorem dX5_tellAbout_133 : decode prog_7_method_16_code 133 = .ok (.iload_n 1, 1) := by decide +kernel
theorem dX5_tellAbout_134 : decode prog_7_method_16_code 134 = .ok (.bipush 12, 2) := by decide +kernel
theorem dX5_tellAbout_136 : decode prog_7_method_16_code 136 = .ok (.imul, 1) := by decide +kernel
theorem dX5_tellAbout_137 : decode prog_7_method_16_code 137 = .ok (.iload_n 2, 1) := by decide +kernel
theorem dX5_tellAbout_138 : decode prog_7_method_16_code 138 = .ok (.iadd, 1) := by decide +kernel
theorem dX5_tellAbout_139 : decode prog_7_method_16_code 139 = .ok (.bipush 10, 2) := by decide +kernel
theorem dX5_tellAbout_141 : decode prog_7_method_16_code 141 = .ok (.isub, 1) := by decide +kernel
theorem dX5_tellAbout_142 : decode prog_7_method_16_code 142 = .ok (.iaload, 1) := by decide +kernel
theorem dX5_tellAbout_143 : decode prog_7_method_16_code 143 = .ok (.ireturn, 1) := by decide +kernel
theorem dX5_tellAbout_144 : decode prog_7_method_16_code 144 = .ok (.bipush (-9), 2) := by decide +kernel
theorem dX5_tellAbout_146 : decode prog_7_method_16_code 146 = .ok (.ireturn, 1) := by decide +kernel
noncomputable def F_X5_tellAbout (v1 : Int) (v2 : Int) (M : bM) : Option (Int) :=
  if v2 = 0 then (b_g (0 ≤ v1 ∧ v1 < 60) (some (M 86 v1))) else (if v2 = 1 then (b_g (0 ≤ v1 ∧ v1 < 60) (some (M 87 v1))) else (if v2 = 2 then (b_g (0 ≤ v1 ∧ v1 < 60) (some (M 88 v1))) else (if v2 = 3 then (b_g (0 ≤ v1 ∧ v1 < 60) (some (M 89 v1))) else (if v2 = 4 then (b_g (0 ≤ v1 ∧ v1 < 60) (some (M 90 v1))) else (if v2 = 5 then (b_g (0 ≤ v1 ∧ v1 < 60) (some (M 94 v1))) else (if v2 = 6 then (b_g (0 ≤ v1 ∧ v1 < 60) (some (M 95 v1))) else (if v2 = 7 then (b_g (0 ≤ v1 ∧ v1 < 60) (some (M 96 v1))) else (if v2 < 10 then (some (-9)) else (if 22 ≤ v2 then (some (-9)) else (b_g ((b_i32 (v2 - 10)) ∧ (0 ≤ v1 ∧ v1 < 60)) (if (M 94 v1) ≤ (v2 - 10) then (some (-9)) else (b_g ((b_i32 (v1 * 12)) ∧ (b_i32 ((v1 * 12) + v2)) ∧ (b_i32 (((v1 * 12) + v2) - 10)) ∧ (0 ≤ (((v1 * 12) + v2) - 10) ∧ (((v1 * 12) + v2) - 10) < 720)) (some (M 97 (((v1 * 12) + v2) - 10)))))))))))))))
theorem t_X5_tellAbout {l : Launch} {E : bE} {Q : Int → Prop} {v1 : Int} {v2 : Int} {M : bM} (h : b_wp (F_X5_tellAbout v1 v2 M) (Q)) : V l E xX5_tellAbout (0, 0) 0 [(0, bR 3), (1, bI v1), (2, bI v2)] [] M (b_pIp M Q) := by
  unfold F_X5_tellAbout at h
  refine v_iload_n (f := 2) 2 rfl dX5_tellAbout_0 ?_
  refine v_case (v := 0) (fun c1 => ?_) (fun c2 => ?_)
  · refine v_tsIn (tgt := 48) (0) c1 (by decide) (by decide) rfl dX5_tellAbout_1 (by decide) ?_
    replace h := b_wp_t c1 h
    obtain ⟨g3, h⟩ := b_wp_g h
    refine v_aload_n (f := 0) 0 rfl dX5_tellAbout_48 ?_
    refine v_getR (kf := 2) (kz := 2) rfl kd_3 rfl ⟨by decide, by decide⟩ rfl wf_5_23 dX5_tellAbout_49 ?_
    refine v_iload_n (f := 1) 1 rfl dX5_tellAbout_52 ?_
    refine v_iaload kd_86 g3 (by decide) dX5_tellAbout_53 ?_
    refine v_ireturn rfl dX5_tellAbout_54 ⟨by decide, by decide⟩ ?_
    exact ⟨_, rfl, rfl, h⟩
  replace h := b_wp_f c2 h
  refine v_case (v := 1) (fun c4 => ?_) (fun c5 => ?_)
  · refine v_tsIn (tgt := 55) (1) c4 (by decide) (by decide) rfl dX5_tellAbout_1 (by decide) ?_
    replace h := b_wp_t c4 h
    obtain ⟨g6, h⟩ := b_wp_g h
    refine v_aload_n (f := 0) 0 rfl dX5_tellAbout_55 ?_
    refine v_getR (kf := 3) (kz := 3) rfl kd_3 rfl ⟨by decide, by decide⟩ rfl wf_5_27 dX5_tellAbout_56 ?_
    refine v_iload_n (f := 1) 1 rfl dX5_tellAbout_59 ?_
    refine v_iaload kd_87 g6 (by decide) dX5_tellAbout_60 ?_
    refine v_ireturn rfl dX5_tellAbout_61 ⟨by decide, by decide⟩ ?_
    exact ⟨_, rfl, rfl, h⟩
  replace h := b_wp_f c5 h
  refine v_case (v := 2) (fun c7 => ?_) (fun c8 => ?_)
  · refine v_tsIn (tgt := 62) (2) c7 (by decide) (by decide) rfl dX5_tellAbout_1 (by decide) ?_
    replace h := b_wp_t c7 h
    obtain ⟨g9, h⟩ := b_wp_g h
    refine v_aload_n (f := 0) 0 rfl dX5_tellAbout_62 ?_
    refine v_getR (kf := 4) (kz := 4) rfl kd_3 rfl ⟨by decide, by decide⟩ rfl wf_5_30 dX5_tellAbout_63 ?_
    refine v_iload_n (f := 1) 1 rfl dX5_tellAbout_66 ?_
    refine v_iaload kd_88 g9 (by decide) dX5_tellAbout_67 ?_
    refine v_ireturn rfl dX5_tellAbout_68 ⟨by decide, by decide⟩ ?_
    exact ⟨_, rfl, rfl, h⟩
  replace h := b_wp_f c8 h
  refine v_case (v := 3) (fun c10 => ?_) (fun c11 => ?_)
  · refine v_tsIn (tgt := 69) (3) c10 (by decide) (by decide) rfl dX5_tellAbout_1 (by decide) ?_
    replace h := b_wp_t c10 h
    obtain ⟨g12, h⟩ := b_wp_g h
    refine v_aload_n (f := 0) 0 rfl dX5_tellAbout_69 ?_
    refine v_getR (kf := 5) (kz := 5) rfl kd_3 rfl ⟨by decide, by decide⟩ rfl wf_5_33 dX5_tellAbout_70 ?_
    refine v_iload_n (f := 1) 1 rfl dX5_tellAbout_73 ?_
    refine v_iaload kd_89 g12 (by decide) dX5_tellAbout_74 ?_
    refine v_ireturn rfl dX5_tellAbout_75 ⟨by decide, by decide⟩ ?_
    exact ⟨_, rfl, rfl, h⟩
  replace h := b_wp_f c11 h
  refine v_case (v := 4) (fun c13 => ?_) (fun c14 => ?_)
  · refine v_tsIn (tgt := 76) (4) c13 (by decide) (by decide) rfl dX5_tellAbout_1 (by decide) ?_
    replace h := b_wp_t c13 h
    obtain ⟨g15, h⟩ := b_wp_g h
    refine v_aload_n (f := 0) 0 rfl dX5_tellAbout_76 ?_
    refine v_getR (kf := 6) (kz := 6) rfl kd_3 rfl ⟨by decide, by decide⟩ rfl wf_5_36 dX5_tellAbout_77 ?_
    refine v_iload_n (f := 1) 1 rfl dX5_tellAbout_80 ?_
    refine v_iaload kd_90 g15 (by decide) dX5_tellAbout_81 ?_
    refine v_ireturn rfl dX5_tellAbout_82 ⟨by decide, by decide⟩ ?_
    exact ⟨_, rfl, rfl, h⟩
  replace h := b_wp_f c14 h
  refine v_case (v := 5) (fun c16 => ?_) (fun c17 => ?_)
  · refine v_tsIn (tgt := 83) (5) c16 (by decide) (by decide) rfl dX5_tellAbout_1 (by decide) ?_
    replace h := b_wp_t c16 h
    obtain ⟨g18, h⟩ := b_wp_g h
    refine v_aload_n (f := 0) 0 rfl dX5_tellAbout_83 ?_
    refine v_getR (kf := 10) (kz := 10) rfl kd_3 rfl ⟨by decide, by decide⟩ rfl wf_5_48 dX5_tellAbout_84 ?_
    refine v_iload_n (f := 1) 1 rfl dX5_tellAbout_87 ?_
    refine v_iaload kd_94 g18 (by decide) dX5_tellAbout_88 ?_
    refine v_ireturn rfl dX5_tellAbout_89 ⟨by decide, by decide⟩ ?_
    exact ⟨_, rfl, rfl, h⟩
  replace h := b_wp_f c17 h
  refine v_case (v := 6) (fun c19 => ?_) (fun c20 => ?_)
  · refine v_tsIn (tgt := 90) (6) c19 (by decide) (by decide) rfl dX5_tellAbout_1 (by decide) ?_
    replace h := b_wp_t c19 h
    obtain ⟨g21, h⟩ := b_wp_g h
    refine v_aload_n (f := 0) 0 rfl dX5_tellAbout_90 ?_
    refine v_getR (kf := 11) (kz := 11) rfl kd_3 rfl ⟨by decide, by decide⟩ rfl wf_5_51 dX5_tellAbout_91 ?_
    refine v_iload_n (f := 1) 1 rfl dX5_tellAbout_94 ?_
    refine v_iaload kd_95 g21 (by decide) dX5_tellAbout_95 ?_
    refine v_ireturn rfl dX5_tellAbout_96 ⟨by decide, by decide⟩ ?_
    exact ⟨_, rfl, rfl, h⟩
  replace h := b_wp_f c20 h
  refine v_case (v := 7) (fun c22 => ?_) (fun c23 => ?_)
  · refine v_tsIn (tgt := 97) (7) c22 (by decide) (by decide) rfl dX5_tellAbout_1 (by decide) ?_
    replace h := b_wp_t c22 h
    obtain ⟨g24, h⟩ := b_wp_g h
    refine v_aload_n (f := 0) 0 rfl dX5_tellAbout_97 ?_
    refine v_getR (kf := 12) (kz := 12) rfl kd_3 rfl ⟨by decide, by decide⟩ rfl wf_5_54 dX5_tellAbout_98 ?_
    refine v_iload_n (f := 1) 1 rfl dX5_tellAbout_101 ?_
    refine v_iaload kd_96 g24 (by decide) dX5_tellAbout_102 ?_
    refine v_ireturn rfl dX5_tellAbout_103 ⟨by decide, by decide⟩ ?_
    exact ⟨_, rfl, rfl, h⟩
  replace h := b_wp_f c23 h
  refine v_tsOut (tgt := 104) (by omega) dX5_tellAbout_1 (by decide) ?_
  refine v_iload_n (f := 2) 2 rfl dX5_tellAbout_104 ?_
  refine v_bipush ⟨by decide, by decide⟩ (by decide) dX5_tellAbout_105 ?_
  refine v_icmp_lt (tgt := 144) dX5_tellAbout_107 (by decide) (fun c25 => ?_) (fun c25 => ?_)
  · replace h := b_wp_t c25 h
    refine v_bipush ⟨by decide, by decide⟩ (by decide) dX5_tellAbout_144 ?_
    refine v_ireturn rfl dX5_tellAbout_146 ⟨by decide, by decide⟩ ?_
    exact ⟨_, rfl, rfl, h⟩
  · replace h := b_wp_f c25 h
    refine v_iload_n (f := 2) 2 rfl dX5_tellAbout_110 ?_
    refine v_bipush ⟨by decide, by decide⟩ (by decide) dX5_tellAbout_111 ?_
    refine v_icmp_ge (tgt := 144) dX5_tellAbout_113 (by decide) (fun c26 => ?_) (fun c26 => ?_)
    · replace h := b_wp_t c26 h
      refine v_bipush ⟨by decide, by decide⟩ (by decide) dX5_tellAbout_144 ?_
      refine v_ireturn rfl dX5_tellAbout_146 ⟨by decide, by decide⟩ ?_
      exact ⟨_, rfl, rfl, h⟩
    · replace h := b_wp_f c26 h
      obtain ⟨⟨g27, g28⟩, h⟩ := b_wp_g h
      refine v_iload_n (f := 2) 2 rfl dX5_tellAbout_116 ?_
      refine v_bipush ⟨by decide, by decide⟩ (by decide) dX5_tellAbout_117 ?_
      refine v_isubN g27 dX5_tellAbout_119 ?_
      refine v_aload_n (f := 0) 0 rfl dX5_tellAbout_120 ?_
      refine v_getR (kf := 10) (kz := 10) rfl kd_3 rfl ⟨by decide, by decide⟩ rfl wf_5_48 dX5_tellAbout_121 ?_
      refine v_iload_n (f := 1) 1 rfl dX5_tellAbout_124 ?_
      refine v_iaload kd_94 g28 (by decide) dX5_tellAbout_125 ?_
      refine v_icmp_ge (tgt := 144) dX5_tellAbout_126 (by decide) (fun c29 => ?_) (fun c29 => ?_)
      · replace h := b_wp_t c29 h
        refine v_bipush ⟨by decide, by decide⟩ (by decide) dX5_tellAbout_144 ?_
        refine v_ireturn rfl dX5_tellAbout_146 ⟨by decide, by decide⟩ ?_
        exact ⟨_, rfl, rfl, h⟩
      · replace h := b_wp_f c29 h
        obtain ⟨⟨g30, g31, g32, g33⟩, h⟩ := b_wp_g h
        refine v_aload_n (f := 0) 0 rfl dX5_tellAbout_129 ?_
        refine v_getR (kf := 13) (kz := 13) rfl kd_3 rfl ⟨by decide, by decide⟩ rfl wf_5_57 dX5_tellAbout_130 ?_
        refine v_iload_n (f := 1) 1 rfl dX5_tellAbout_133 ?_
        refine v_bipush ⟨by decide, by decide⟩ (by decide) dX5_tellAbout_134 ?_
        refine v_imulN g30 dX5_tellAbout_136 ?_
        refine v_iload_n (f := 2) 2 rfl dX5_tellAbout_137 ?_
        refine v_iaddN g31 dX5_tellAbout_138 ?_
        refine v_bipush ⟨by decide, by decide⟩ (by decide) dX5_tellAbout_139 ?_
        refine v_isubN g32 dX5_tellAbout_141 ?_
        refine v_iaload kd_97 g33 (by decide) dX5_tellAbout_142 ?_
        refine v_ireturn rfl dX5_tellAbout_143 ⟨by decide, by decide⟩ ?_
        exact ⟨_, rfl, rfl, h⟩
theorem cf_X5_tellAbout {l : Launch} {E : bE} {M : bM} {v1 : Int} {v2 : Int} {Q : Int → Prop} (h : b_wp (F_X5_tellAbout v1 v2 M) Q) : b_C l E xX5_tellAbout yX5_tellAbout [bR 3, bI v1, bI v2] M (b_pIp M Q) := b_met (by decide) ⟨rfl, rfl⟩ (Nat.le_of_ble_eq_true rfl) (fun _ _ => t_X5_tellAbout h)
abbrev xX11_about : bX := ("BurntHall", prog_1_method_17_code, 3, (Option.some Jvm.ClassFile.FieldType.int), b_rm 2 0 0, 0, "about")
abbrev yX11_about : MethodName := ⟨"BurntHall", "about", "(II)I"⟩
theorem dX11_about_0 : decode prog_1_method_17_code 0 = .ok (.aload_n 0, 1) := by decide +kernel
theorem dX11_about_1 : decode prog_1_method_17_code 1 = .ok (.getfield 26, 3) := by decide +kernel
theorem dX11_about_4 : decode prog_1_method_17_code 4 = .ok (.iload_n 1, 1) := by decide +kernel
theorem dX11_about_5 : decode prog_1_method_17_code 5 = .ok (.invokevirtual 146, 3) := by decide +kernel
theorem dX11_about_8 : decode prog_1_method_17_code 8 = .ok (.ifCond .eq 15, 3) := by decide +kernel
theorem dX11_about_11 : decode prog_1_method_17_code 11 = .ok (.aload_n 0, 1) := by decide +kernel
theorem dX11_about_12 : decode prog_1_method_17_code 12 = .ok (.getfield 26, 3) := by decide +kernel
theorem dX11_about_15 : decode prog_1_method_17_code 15 = .ok (.iload_n 1, 1) := by decide +kernel
theorem dX11_about_16 : decode prog_1_method_17_code 16 = .ok (.iload_n 2, 1) := by decide +kernel
theorem dX11_about_17 : decode prog_1_method_17_code 17 = .ok (.invokevirtual 170, 3) := by decide +kernel
theorem dX11_about_20 : decode prog_1_method_17_code 20 = .ok (.goto 5, 3) := by decide +kernel
theorem dX11_about_23 : decode prog_1_method_17_code 23 = .ok (.bipush (-9), 2) := by decide +kernel
theorem dX11_about_25 : decode prog_1_method_17_code 25 = .ok (.ireturn, 1) := by decide +kernel
noncomputable def F_X11_about (v1 : Int) (v2 : Int) (M : bM) : Option (Int) :=
  b_bind (F_X5_has v1 M) (fun x1 => if x1 = 0 then (some (-9)) else (b_bind (F_X5_tellAbout v1 v2 M) (fun x3 => some x3)))
theorem t_X11_about {l : Launch} {E : bE} {Q : Int → Prop} {v1 : Int} {v2 : Int} {M : bM} (h : b_wp (F_X11_about v1 v2 M) (Q)) : V l E xX11_about (0, 0) 0 [(0, bR 0), (1, bI v1), (2, bI v2)] [] M (b_pIp M Q) := by
  unfold F_X11_about at h
  refine v_aload_n (f := 0) 0 rfl dX11_about_0 ?_
  refine v_getR (kf := 2) (kz := 2) rfl kd_0 rfl ⟨by decide, by decide⟩ rfl wf_11_26 dX11_about_1 ?_
  refine v_iload_n (f := 1) 1 rfl dX11_about_4 ?_
  refine v_cVIp (nA := 1) (As := [bI _]) (ix := 146) (cf_X5_has (b_wp_b h)) rfl kd_3 rfl rfl wc_X5_has wm_11_146 wi_X5_has ws_X5_has wn_5 ⟨by decide, by decide, by decide⟩ rfl ⟨by decide, by decide⟩ ⟨by decide, by decide⟩ (Nat.le_of_ble_eq_true rfl) dX11_about_5 (fun x1 h => ?_)
  refine v_if_eq (tgt := 23) dX11_about_8 (by decide) (fun c2 => ?_) (fun c2 => ?_)
  · replace h := b_wp_t c2 h
    refine v_bipush ⟨by decide, by decide⟩ (by decide) dX11_about_23 ?_
    refine v_ireturn rfl dX11_about_25 ⟨by decide, by decide⟩ ?_
    exact ⟨_, rfl, rfl, h⟩
  · replace h := b_wp_f c2 h
    refine v_aload_n (f := 0) 0 rfl dX11_about_11 ?_
    refine v_getR (kf := 2) (kz := 2) rfl kd_0 rfl ⟨by decide, by decide⟩ rfl wf_11_26 dX11_about_12 ?_
    refine v_iload_n (f := 1) 1 rfl dX11_about_15 ?_
    refine v_iload_n (f := 2) 2 rfl dX11_about_16 ?_
    refine v_cVIp (nA := 2) (As := [bI _, bI _]) (ix := 170) (cf_X5_tellAbout (b_wp_b h)) rfl kd_3 rfl rfl wc_X5_tellAbout wm_11_170 wi_X5_tellAbout ws_X5_tellAbout wn_5 ⟨by decide, by decide, by decide⟩ rfl ⟨by decide, by decide⟩ ⟨by decide, by decide⟩ (Nat.le_of_ble_eq_true rfl) dX11_about_17 (fun x3 h => ?_)
    refine v_goto (tgt := 25) dX11_about_20 (by decide) ?_
    refine v_ireturn rfl dX11_about_25 ⟨by decide, by decide⟩ ?_
    exact ⟨_, rfl, rfl, h⟩
theorem cf_X11_about {l : Launch} {E : bE} {M : bM} {v1 : Int} {v2 : Int} {Q : Int → Prop} (h : b_wp (F_X11_about v1 v2 M) Q) : b_C l E xX11_about yX11_about [bR 0, bI v1, bI v2] M (b_pIp M Q) := b_met (by decide) ⟨rfl, rfl⟩ (Nat.le_of_ble_eq_true rfl) (fun _ _ => t_X11_about h)
