abbrev xX7_weighAll : bX := ("BurntHall$Papers", prog_9_method_11_code, 3, (Option.none : Option Jvm.ClassFile.FieldType), b_rm 6 0 0, 0, "weighAll")
abbrev yX7_weighAll : MethodName := ⟨"BurntHall$Papers", "weighAll", "(LBurntHall$Acts;)V"⟩
theorem dX7_weighAll_0 : decode prog_9_method_11_code 0 = .ok (.iconst 0, 1) := by decide +kernel
theorem dX7_weighAll_1 : decode prog_9_method_11_code 1 = .ok (.istore_n 2, 1) := by decide +kernel
theorem dX7_weighAll_2 : decode prog_9_method_11_code 2 = .ok (.iload_n 2, 1) := by decide +kernel
theorem dX7_weighAll_3 : decode prog_9_method_11_code 3 = .ok (.aload_n 0, 1) := by decide +kernel
theorem dX7_weighAll_4 : decode prog_9_method_11_code 4 = .ok (.getfield 67, 3) := by decide +kernel
theorem dX7_weighAll_7 : decode prog_9_method_11_code 7 = .ok (.if_icmp .ge 19, 3) := by decide +kernel
theorem dX7_weighAll_10 : decode prog_9_method_11_code 10 = .ok (.aload_n 0, 1) := by decide +kernel
theorem dX7_weighAll_11 : decode prog_9_method_11_code 11 = .ok (.iload_n 2, 1) := by decide +kernel
theorem dX7_weighAll_12 : decode prog_9_method_11_code 12 = .ok (.aload_n 1, 1) := by decide +kernel
theorem dX7_weighAll_13 : decode prog_9_method_11_code 13 = .ok (.getfield 109, 3) := by decide +kernel
theorem dX7_weighAll_16 : decode prog_9_method_11_code 16 = .ok (.aload_n 1, 1) := by decide +kernel
theorem dX7_weighAll_17 : decode prog_9_method_11_code 17 = .ok (.invokevirtual 110, 3) := by decide +kernel
theorem dX7_weighAll_20 : decode prog_9_method_11_code 20 = .ok (.iinc 2 1, 3) := by decide +kernel
theorem dX7_weighAll_23 : decode prog_9_method_11_code 23 = .ok (.goto (-21), 3) := by decide +kernel
theorem dX7_weighAll_26 : decode prog_9_method_11_code 26 = .ok (.return_, 1) := by decide +kernel
abbrev A_X7_weighAll_4_2 (l : Launch) (E : bE) (Q : bM → Prop) : (Int × bM) → Prop := (fun t : Int × bM => V l E xX7_weighAll (0, 0) 2 [(0, bR 5), (1, bR 4), (2, bI (t.1))] [] t.2 (b_pV Q))
abbrev X_X7_weighAll_4_2 (l : Launch) (E : bE) (Q : bM → Prop) : (bM) → Prop := (fun t : bM => V l E xX7_weighAll (0, 0) 26 [] [] t (b_pV Q))
noncomputable def F_X7_weighAll_4_s2 (v2 : Int) (M : bM) : Option ((Int × bM) ⊕ (bM)) :=
  if (M 5 0) ≤ v2 then (some (.inr (M))) else (b_bind (F_X7_weighBy_4 v2 (M 4 0) M) (fun M2 => b_g (b_i32 (v2 + 1)) (some (.inl ((v2 + 1), M2)))))
theorem t_X7_weighAll_4_s2 {l : Launch} {E : bE} {Q : bM → Prop} {v2 : Int} {M : bM} (h : b_wp (F_X7_weighAll_4_s2 v2 M) (Sum.elim (A_X7_weighAll_4_2 l E Q ) (X_X7_weighAll_4_2 l E Q ))) : V l E xX7_weighAll (0, 0) 2 [(0, bR 5), (1, bR 4), (2, bI v2)] [] M (b_pV Q) := by
  unfold F_X7_weighAll_4_s2 at h
  refine v_iload_n (f := 2) 2 rfl dX7_weighAll_2 ?_
  refine v_aload_n (f := 0) 0 rfl dX7_weighAll_3 ?_
  refine v_getI (kf := 0) (kz := 0) rfl kd_5 rfl ⟨by decide, by decide⟩ rfl wf_7_67 dX7_weighAll_4 ?_
  refine v_icmp_ge (tgt := 26) dX7_weighAll_7 (by decide) (fun c1 => ?_) (fun c1 => ?_)
  · replace h := b_wp_t c1 h
    refine v_sub (ls2 := []) [] rfl ?_
    exact h
  · replace h := b_wp_f c1 h
    refine v_aload_n (f := 0) 0 rfl dX7_weighAll_10 ?_
    refine v_iload_n (f := 2) 2 rfl dX7_weighAll_11 ?_
    refine v_aload_n (f := 1) 1 rfl dX7_weighAll_12 ?_
    refine v_getI (kf := 0) (kz := 0) rfl kd_4 rfl ⟨by decide, by decide⟩ rfl wf_7_109 dX7_weighAll_13 ?_
    refine v_aload_n (f := 1) 1 rfl dX7_weighAll_16 ?_
    refine v_cVV (nA := 3) (As := [bI _, bI _, bR _]) (ix := 110) (cf_X7_weighBy_4 (b_wp_b h)) rfl kd_5 rfl rfl wc_X7_weighBy wm_7_110 wi_X7_weighBy ws_X7_weighBy wn_7 ⟨by decide, by decide, by decide⟩ rfl ⟨by decide, by decide⟩ ⟨by decide, by decide⟩ (Nat.le_of_ble_eq_true rfl) dX7_weighAll_17 (fun M2 h => ?_)
    obtain ⟨g3, h⟩ := b_wp_g h
    refine v_iincN (ls' := [(2, bI _), (0, bR _), (1, bR _)]) 2 rfl (by decide) g3 dX7_weighAll_20 rfl ?_
    refine v_goto (tgt := 2) dX7_weighAll_23 (by decide) ?_
    refine v_sub (ls2 := [(0, bR _), (1, bR _), (2, bI _)]) [1, 2, 0] rfl ?_
    exact h
theorem l_X7_weighAll_4_2 {l : Launch} {E : bE} {Q : bM → Prop} {s : Int × bM} (h : b_wp (b_loop (fun t => F_X7_weighAll_4_s2 t.1 t.2) s) (X_X7_weighAll_4_2 l E Q )) : A_X7_weighAll_4_2 l E Q  s := b_loop_wp (fun t h => t_X7_weighAll_4_s2 h) s h
noncomputable def F_X7_weighAll_4_b26 (M : bM) : Option (bM) :=
  some M
theorem t_X7_weighAll_4_b26 {l : Launch} {E : bE} {Q : bM → Prop} {M : bM} (h : b_wp (F_X7_weighAll_4_b26 M) (Q)) : V l E xX7_weighAll (0, 0) 26 [] [] M (b_pV Q) := by
  unfold F_X7_weighAll_4_b26 at h
  refine v_return rfl dX7_weighAll_26 ⟨by decide, by decide⟩ ?_
  exact ⟨rfl, h⟩
noncomputable def F_X7_weighAll_4 (M : bM) : Option (bM) :=
  b_bind (b_loop (fun t => F_X7_weighAll_4_s2 t.1 t.2) (0, M)) (fun t => F_X7_weighAll_4_b26 t)
theorem t_X7_weighAll_4 {l : Launch} {E : bE} {Q : bM → Prop} {M : bM} (h : b_wp (F_X7_weighAll_4 M) (Q)) : V l E xX7_weighAll (0, 0) 0 [(0, bR 5), (1, bR 4)] [] M (b_pV Q) := by
  unfold F_X7_weighAll_4 at h
  refine v_iconst ⟨by decide, by decide⟩ dX7_weighAll_0 ?_
  refine v_istore_n (g := 2) (i := 2) (ls' := [(2, bI _), (0, bR _), (1, bR _)]) rfl (by decide) dX7_weighAll_1 rfl ?_
  refine v_sub (ls2 := [(0, bR _), (1, bR _), (2, bI _)]) [1, 2, 0] rfl ?_
  refine l_X7_weighAll_4_2 (b_wp_m (fun t h => ?_) (b_wp_b h))
  show V l E xX7_weighAll (0, 0) 26 [] [] _ (b_pV Q)
  exact t_X7_weighAll_4_b26 h
theorem cf_X7_weighAll_4 {l : Launch} {E : bE} {M : bM} {Q : bM → Prop} (h : b_wp (F_X7_weighAll_4 M) Q) : b_C l E xX7_weighAll yX7_weighAll [bR 5, bR 4] M (b_pV Q) := b_met (by decide) ⟨rfl, rfl⟩ (Nat.le_of_ble_eq_true rfl) (fun _ _ => t_X7_weighAll_4 h)
def W_X7_weighAll_4 : List (Nat × Option Int) := [(124, none), (125, none)]
theorem w_X7_weighAll_4_s2 {v2 : Int} {M0 M : bM} (hF : b_fr W_X7_weighAll_4 M0 M) : b_wl (F_X7_weighAll_4_s2 v2 M) (Sum.elim (fun t : Int × bM => b_fr W_X7_weighAll_4 M0 t.2) (fun t : bM => b_fr W_X7_weighAll_4 M0 t)) := by
  unfold F_X7_weighAll_4_s2
  refine b_wl_i (fun c1 => ?_) (fun c1 => ?_)
  · exact b_wl_s hF
  · refine b_wl_b (w_X7_weighBy_4 b_fr_refl) (fun o ho => ?_)
    replace hF := b_fr_tr hF (b_fr_mo (by decide +kernel) ho)
    refine b_wl_g (fun hg => ?_)
    exact b_wl_s hF
theorem w_X7_weighAll_4_b26 {M0 M : bM} (hF : b_fr W_X7_weighAll_4 M0 M) : b_wl (F_X7_weighAll_4_b26 M) (fun o : bM => b_fr W_X7_weighAll_4 M0 o) := by
  unfold F_X7_weighAll_4_b26
  exact b_wl_s hF
theorem w_X7_weighAll_4 {M0 M : bM} (hF : b_fr W_X7_weighAll_4 M0 M) : b_wl (F_X7_weighAll_4 M) (fun o : bM => b_fr W_X7_weighAll_4 M0 o) := by
  unfold F_X7_weighAll_4
  refine b_wl_b (b_wl_loop (A := (fun t : Int × bM => b_fr W_X7_weighAll_4 M0 t.2)) (fun t ht => w_X7_weighAll_4_s2 ht) hF) (fun t ht => ?_)
  replace hF : b_fr W_X7_weighAll_4 M0 t := ht
  exact w_X7_weighAll_4_b26 hF
