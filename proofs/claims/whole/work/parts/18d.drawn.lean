abbrev xX0_weightOf : bX := ("BurntHall$Act", prog_2_method_7_code, 5, (Option.some Jvm.ClassFile.FieldType.int), b_rm 4 0 0, 0, "weightOf")
abbrev yX0_weightOf : MethodName := ⟨"BurntHall$Act", "weightOf", "(LBurntHall$Papers;I[I)I"⟩
theorem dX0_weightOf_0 : decode prog_2_method_7_code 0 = .ok (.aload_n 0, 1) := by decide +kernel
theorem dX0_weightOf_1 : decode prog_2_method_7_code 1 = .ok (.getfield 32, 3) := by decide +kernel
theorem dX0_weightOf_4 : decode prog_2_method_7_code 4 = .ok (.iconst 1, 1) := by decide +kernel
theorem dX0_weightOf_5 : decode prog_2_method_7_code 5 = .ok (.isub, 1) := by decide +kernel
theorem dX0_weightOf_6 : decode prog_2_method_7_code 6 = .ok (.istore 4, 2) := by decide +kernel
theorem dX0_weightOf_8 : decode prog_2_method_7_code 8 = .ok (.iload 4, 2) := by decide +kernel
theorem dX0_weightOf_10 : decode prog_2_method_7_code 10 = .ok (.ifCond .lt 70, 3) := by decide +kernel
theorem dX0_weightOf_13 : decode prog_2_method_7_code 13 = .ok (.aload_n 0, 1) := by decide +kernel
theorem dX0_weightOf_14 : decode prog_2_method_7_code 14 = .ok (.getfield 13, 3) := by decide +kernel
theorem dX0_weightOf_17 : decode prog_2_method_7_code 17 = .ok (.iload 4, 2) := by decide +kernel
theorem dX0_weightOf_19 : decode prog_2_method_7_code 19 = .ok (.iaload, 1) := by decide +kernel
theorem dX0_weightOf_20 : decode prog_2_method_7_code 20 = .ok (.bipush 100, 2) := by decide +kernel
theorem dX0_weightOf_22 : decode prog_2_method_7_code 22 = .ok (.idiv, 1) := by decide +kernel
theorem dX0_weightOf_23 : decode prog_2_method_7_code 23 = .ok (.aload_n 1, 1) := by decide +kernel
theorem dX0_weightOf_24 : decode prog_2_method_7_code 24 = .ok (.getfield 42, 3) := by decide +kernel
theorem dX0_weightOf_27 : decode prog_2_method_7_code 27 = .ok (.iload_n 2, 1) := by decide +kernel
theorem dX0_weightOf_28 : decode prog_2_method_7_code 28 = .ok (.iaload, 1) := by decide +kernel
theorem dX0_weightOf_29 : decode prog_2_method_7_code 29 = .ok (.if_icmp .ne 45, 3) := by decide +kernel
theorem dX0_weightOf_32 : decode prog_2_method_7_code 32 = .ok (.aload_n 0, 1) := by decide +kernel
theorem dX0_weightOf_33 : decode prog_2_method_7_code 33 = .ok (.getfield 16, 3) := by decide +kernel
theorem dX0_weightOf_36 : decode prog_2_method_7_code 36 = .ok (.iload 4, 2) := by decide +kernel
theorem dX0_weightOf_38 : decode prog_2_method_7_code 38 = .ok (.iaload, 1) := by decide +kernel
theorem dX0_weightOf_39 : decode prog_2_method_7_code 39 = .ok (.aload_n 0, 1) := by decide +kernel
theorem dX0_weightOf_40 : decode prog_2_method_7_code 40 = .ok (.getfield 16, 3) := by decide +kernel
theorem dX0_weightOf_43 : decode prog_2_method_7_code 43 = .ok (.iload 4, 2) := by decide +kernel
theorem dX0_weightOf_45 : decode prog_2_method_7_code 45 = .ok (.iconst 1, 1) := by decide +kernel
theorem dX0_weightOf_46 : decode prog_2_method_7_code 46 = .ok (.iadd, 1) := by decide +kernel
theorem dX0_weightOf_47 : decode prog_2_method_7_code 47 = .ok (.iaload, 1) := by decide +kernel
theorem dX0_weightOf_48 : decode prog_2_method_7_code 48 = .ok (.if_icmp .eq 15, 3) := by decide +kernel
theorem dX0_weightOf_51 : decode prog_2_method_7_code 51 = .ok (.aload_n 0, 1) := by decide +kernel
theorem dX0_weightOf_52 : decode prog_2_method_7_code 52 = .ok (.iload 4, 2) := by decide +kernel
theorem dX0_weightOf_54 : decode prog_2_method_7_code 54 = .ok (.aload_n 1, 1) := by decide +kernel
theorem dX0_weightOf_55 : decode prog_2_method_7_code 55 = .ok (.iload_n 2, 1) := by decide +kernel
theorem dX0_weightOf_56 : decode prog_2_method_7_code 56 = .ok (.aload_n 3, 1) := by decide +kernel
theorem dX0_weightOf_57 : decode prog_2_method_7_code 57 = .ok (.invokevirtual 47, 3) := by decide +kernel
theorem dX0_weightOf_60 : decode prog_2_method_7_code 60 = .ok (.ifCond .eq 14, 3) := by decide +kernel
theorem dX0_weightOf_63 : decode prog_2_method_7_code 63 = .ok (.aload_n 0, 1) := by decide +kernel
theorem dX0_weightOf_64 : decode prog_2_method_7_code 64 = .ok (.getfield 13, 3) := by decide +kernel
theorem dX0_weightOf_67 : decode prog_2_method_7_code 67 = .ok (.iload 4, 2) := by decide +kernel
theorem dX0_weightOf_69 : decode prog_2_method_7_code 69 = .ok (.iaload, 1) := by decide +kernel
theorem dX0_weightOf_70 : decode prog_2_method_7_code 70 = .ok (.bipush 100, 2) := by decide +kernel
theorem dX0_weightOf_72 : decode prog_2_method_7_code 72 = .ok (.irem, 1) := by decide +kernel
theorem dX0_weightOf_73 : decode prog_2_method_7_code 73 = .ok (.ireturn, 1) := by decide +kernel
theorem dX0_weightOf_74 : decode prog_2_method_7_code 74 = .ok (.iinc 4 (-1), 3) := by decide +kernel
theorem dX0_weightOf_77 : decode prog_2_method_7_code 77 = .ok (.goto (-69), 3) := by decide +kernel
theorem dX0_weightOf_80 : decode prog_2_method_7_code 80 = .ok (.iconst 0, 1) := by decide +kernel
theorem dX0_weightOf_81 : decode prog_2_method_7_code 81 = .ok (.ireturn, 1) := by decide +kernel
abbrev A_X0_weightOf_a_5_125_8 (l : Launch) (E : bE) (Q : (Int × bM) → Prop) (v0 : Nat) (v2 : Int) : (Int × bM) → Prop := (fun t : Int × bM => V l E xX0_weightOf (0, 0) 8 [(0, bR v0), (1, bR 5), (2, bI v2), (3, bR 125), (4, bI (t.1))] [] t.2 (b_pI Q))
abbrev X_X0_weightOf_a_5_125_8 (l : Launch) (E : bE) (Q : (Int × bM) → Prop) (v0 : Nat) (v2 : Int) : ((bM) ⊕ (Int × bM)) → Prop := (Sum.elim (fun t : bM => V l E xX0_weightOf (0, 0) 80 [] [] t (b_pI Q)) Q)
noncomputable def F_X0_weightOf_a_5_125_b63 (v0 : Nat) (v4 : Int) (M : bM) : Option ((Int × bM) ⊕ ((bM) ⊕ (Int × bM))) :=
  b_g ((12 ≤ v0 ∧ v0 < 22) ∧ (0 ≤ v4 ∧ v4 < 24)) (some (.inr (.inr ((i_rem (M (v0 + 20) v4) 100), M))))
theorem t_X0_weightOf_a_5_125_b63 {l : Launch} {E : bE} {Q : (Int × bM) → Prop} {v0 : Nat} {v4 : Int} {v2 : Int} {M : bM} (h : b_wp (F_X0_weightOf_a_5_125_b63 v0 v4 M) (Sum.elim (A_X0_weightOf_a_5_125_8 l E Q v0 v2) (X_X0_weightOf_a_5_125_8 l E Q v0 v2))) : V l E xX0_weightOf (0, 0) 63 [(0, bR v0), (4, bI v4)] [] M (b_pI Q) := by
  unfold F_X0_weightOf_a_5_125_b63 at h
  obtain ⟨⟨g14, g15⟩, h⟩ := b_wp_g h
  refine v_aload_n (f := 0) 0 rfl dX0_weightOf_63 ?_
  refine v_getO (kf := 3) (kz := 3) rfl (kd_act0 g14) rfl ⟨by decide, by decide⟩ rfl wf_0_13 dX0_weightOf_64 ?_
  refine v_iload (i := 4) 1 rfl dX0_weightOf_67 ?_
  refine v_iaload (kd_act20 g14) g15 (by decide) dX0_weightOf_69 ?_
  refine v_bipush ⟨by decide, by decide⟩ (by decide) dX0_weightOf_70 ?_
  refine v_irem (v := i_rem _ _) (by decide) rfl dX0_weightOf_72 ?_
  refine v_ireturn rfl dX0_weightOf_73 ⟨by decide, by decide⟩ ?_
  exact ⟨_, rfl, h⟩
noncomputable def F_X0_weightOf_a_5_125_s8 (v0 : Nat) (v2 : Int) (v4 : Int) (M : bM) : Option ((Int × bM) ⊕ ((bM) ⊕ (Int × bM))) :=
  if v4 < 0 then (some (.inr (.inl (M)))) else (b_g ((12 ≤ v0 ∧ v0 < 22) ∧ (0 ≤ v4 ∧ v4 < 24) ∧ (0 ≤ v2 ∧ v2 < 120)) (if (i_div (M (v0 + 20) v4) 100) = (M 110 v2) then (b_g ((0 ≤ v4 ∧ v4 < 25) ∧ (b_i32 (v4 + 1)) ∧ (0 ≤ (v4 + 1) ∧ (v4 + 1) < 25)) (if (M (v0 + 40) v4) = (M (v0 + 40) (v4 + 1)) then (F_X0_weightOf_a_5_125_b63 v0 v4 M) else (b_bind (F_X0_holds_a_5_125 v0 v4 v2 M) (fun t => b_two t (fun x16 M17 => if x16 = 0 then (b_g (b_i32 (v4 + (-1))) (some (.inl ((v4 + (-1)), M17)))) else (F_X0_weightOf_a_5_125_b63 v0 v4 M17)))))) else (b_g (b_i32 (v4 + (-1))) (some (.inl ((v4 + (-1)), M))))))
theorem t_X0_weightOf_a_5_125_s8 {l : Launch} {E : bE} {Q : (Int × bM) → Prop} {v0 : Nat} {v2 : Int} {v4 : Int} {M : bM} (h : b_wp (F_X0_weightOf_a_5_125_s8 v0 v2 v4 M) (Sum.elim (A_X0_weightOf_a_5_125_8 l E Q v0 v2) (X_X0_weightOf_a_5_125_8 l E Q v0 v2))) : V l E xX0_weightOf (0, 0) 8 [(0, bR v0), (1, bR 5), (2, bI v2), (3, bR 125), (4, bI v4)] [] M (b_pI Q) := by
  unfold F_X0_weightOf_a_5_125_s8 at h
  refine v_iload (i := 4) 4 rfl dX0_weightOf_8 ?_
  refine v_if_lt (tgt := 80) dX0_weightOf_10 (by decide) (fun c4 => ?_) (fun c4 => ?_)
  · replace h := b_wp_t c4 h
    refine v_sub (ls2 := []) [] rfl ?_
    exact h
  · replace h := b_wp_f c4 h
    obtain ⟨⟨g5, g6, g7⟩, h⟩ := b_wp_g h
    refine v_aload_n (f := 0) 0 rfl dX0_weightOf_13 ?_
    refine v_getO (kf := 3) (kz := 3) rfl (kd_act0 g5) rfl ⟨by decide, by decide⟩ rfl wf_0_13 dX0_weightOf_14 ?_
    refine v_iload (i := 4) 4 rfl dX0_weightOf_17 ?_
    refine v_iaload (kd_act20 g5) g6 (by decide) dX0_weightOf_19 ?_
    refine v_bipush ⟨by decide, by decide⟩ (by decide) dX0_weightOf_20 ?_
    refine v_idiv (v := i_div _ _) (by decide) rfl dX0_weightOf_22 ?_
    refine v_aload_n (f := 1) 1 rfl dX0_weightOf_23 ?_
    refine v_getR (kf := 2) (kz := 2) rfl kd_5 rfl ⟨by decide, by decide⟩ rfl wf_0_42 dX0_weightOf_24 ?_
    refine v_iload_n (f := 2) 2 rfl dX0_weightOf_27 ?_
    refine v_iaload kd_110 g7 (by decide) dX0_weightOf_28 ?_
    refine v_icmp_ne (tgt := 74) dX0_weightOf_29 (by decide) (fun c8 => ?_) (fun c8 => ?_)
    · replace h := b_wp_f c8 h
      obtain ⟨g9, h⟩ := b_wp_g h
      refine v_iincN (ls' := [(4, bI _), (0, bR _), (1, bR _), (2, bI _), (3, bR _)]) 4 rfl (by decide) g9 dX0_weightOf_74 rfl ?_
      refine v_goto (tgt := 8) dX0_weightOf_77 (by decide) ?_
      refine v_sub (ls2 := [(0, bR _), (1, bR _), (2, bI _), (3, bR _), (4, bI _)]) [1, 2, 3, 4, 0] rfl ?_
      exact h
    · replace h := b_wp_t c8 h
      obtain ⟨⟨g10, g11, g12⟩, h⟩ := b_wp_g h
      refine v_aload_n (f := 0) 0 rfl dX0_weightOf_32 ?_
      refine v_getO (kf := 4) (kz := 4) rfl (kd_act0 g5) rfl ⟨by decide, by decide⟩ rfl wf_0_16 dX0_weightOf_33 ?_
      refine v_iload (i := 4) 4 rfl dX0_weightOf_36 ?_
      refine v_iaload (kd_act40 g5) g10 (by decide) dX0_weightOf_38 ?_
      refine v_aload_n (f := 0) 0 rfl dX0_weightOf_39 ?_
      refine v_getO (kf := 4) (kz := 4) rfl (kd_act0 g5) rfl ⟨by decide, by decide⟩ rfl wf_0_16 dX0_weightOf_40 ?_
      refine v_iload (i := 4) 4 rfl dX0_weightOf_43 ?_
      refine v_iconst ⟨by decide, by decide⟩ dX0_weightOf_45 ?_
      refine v_iaddN g11 dX0_weightOf_46 ?_
      refine v_iaload (kd_act40 g5) g12 (by decide) dX0_weightOf_47 ?_
      refine v_icmp_eq (tgt := 63) dX0_weightOf_48 (by decide) (fun c13 => ?_) (fun c13 => ?_)
      · replace h := b_wp_t c13 h
        refine v_sub (ls2 := [(0, bR _), (4, bI _)]) [0, 4] rfl ?_
        exact t_X0_weightOf_a_5_125_b63 h
      · replace h := b_wp_f c13 h
        refine v_aload_n (f := 0) 0 rfl dX0_weightOf_51 ?_
        refine v_iload (i := 4) 4 rfl dX0_weightOf_52 ?_
        refine v_aload_n (f := 1) 1 rfl dX0_weightOf_54 ?_
        refine v_iload_n (f := 2) 2 rfl dX0_weightOf_55 ?_
        refine v_aload_n (f := 3) 3 rfl dX0_weightOf_56 ?_
        refine v_cVI (nA := 4) (As := [bI _, bR _, bI _, bR _]) (ix := 47) (cf_X0_holds_a_5_125 (b_wp_b h)) rfl (kd_act0 g5) rfl rfl wc_X0_holds wm_0_47 wi_X0_holds ws_X0_holds wn_0 ⟨by decide, by decide, by decide⟩ rfl ⟨by decide, by decide⟩ ⟨by decide, by decide⟩ (Nat.le_of_ble_eq_true rfl) dX0_weightOf_57 (fun x16 M17 h => ?_)
        replace h := b_wp_two h
        refine v_if_eq (tgt := 74) dX0_weightOf_60 (by decide) (fun c18 => ?_) (fun c18 => ?_)
        · replace h := b_wp_t c18 h
          obtain ⟨g19, h⟩ := b_wp_g h
          refine v_iincN (ls' := [(4, bI _), (0, bR _), (1, bR _), (2, bI _), (3, bR _)]) 4 rfl (by decide) g19 dX0_weightOf_74 rfl ?_
          refine v_goto (tgt := 8) dX0_weightOf_77 (by decide) ?_
          refine v_sub (ls2 := [(0, bR _), (1, bR _), (2, bI _), (3, bR _), (4, bI _)]) [1, 2, 3, 4, 0] rfl ?_
          exact h
        · replace h := b_wp_f c18 h
          refine v_sub (ls2 := [(0, bR _), (4, bI _)]) [0, 4] rfl ?_
          exact t_X0_weightOf_a_5_125_b63 h
theorem l_X0_weightOf_a_5_125_8 {l : Launch} {E : bE} {Q : (Int × bM) → Prop} {v0 : Nat} {v2 : Int} {s : Int × bM} (h : b_wp (b_loop (fun t => F_X0_weightOf_a_5_125_s8 v0 v2 t.1 t.2) s) (X_X0_weightOf_a_5_125_8 l E Q v0 v2)) : A_X0_weightOf_a_5_125_8 l E Q v0 v2 s := b_loop_wp (fun t h => t_X0_weightOf_a_5_125_s8 h) s h
noncomputable def F_X0_weightOf_a_5_125_b80 (M : bM) : Option (Int × bM) :=
  some (0, M)
theorem t_X0_weightOf_a_5_125_b80 {l : Launch} {E : bE} {Q : (Int × bM) → Prop} {M : bM} (h : b_wp (F_X0_weightOf_a_5_125_b80 M) (Q)) : V l E xX0_weightOf (0, 0) 80 [] [] M (b_pI Q) := by
  unfold F_X0_weightOf_a_5_125_b80 at h
  refine v_iconst ⟨by decide, by decide⟩ dX0_weightOf_80 ?_
  refine v_ireturn rfl dX0_weightOf_81 ⟨by decide, by decide⟩ ?_
  exact ⟨_, rfl, h⟩
noncomputable def F_X0_weightOf_a_5_125 (v0 : Nat) (v2 : Int) (M : bM) : Option (Int × bM) :=
  b_g ((12 ≤ v0 ∧ v0 < 22) ∧ (b_i32 ((M v0 1) - 1))) (b_let (((M v0 1) - 1)) (fun y3 => b_bind (b_loop (fun t => F_X0_weightOf_a_5_125_s8 v0 v2 t.1 t.2) (y3, M)) (Sum.elim (fun t => F_X0_weightOf_a_5_125_b80 t) some)))
theorem t_X0_weightOf_a_5_125 {l : Launch} {E : bE} {Q : (Int × bM) → Prop} {v0 : Nat} {v2 : Int} {M : bM} (h : b_wp (F_X0_weightOf_a_5_125 v0 v2 M) (Q)) : V l E xX0_weightOf (0, 0) 0 [(0, bR v0), (1, bR 5), (2, bI v2), (3, bR 125)] [] M (b_pI Q) := by
  unfold F_X0_weightOf_a_5_125 at h
  obtain ⟨⟨g1, g2⟩, h⟩ := b_wp_g h
  refine v_aload_n (f := 0) 0 rfl dX0_weightOf_0 ?_
  refine v_getI (kf := 1) (kz := 1) rfl (kd_act0 g1) rfl ⟨by decide, by decide⟩ rfl wf_0_32 dX0_weightOf_1 ?_
  refine v_iconst ⟨by decide, by decide⟩ dX0_weightOf_4 ?_
  refine v_isubN g2 dX0_weightOf_5 ?_
  replace h := b_wp_l h
  refine v_istore (i := 4) (ls' := [(4, bI _), (0, bR _), (1, bR _), (2, bI _), (3, bR _)]) (by decide) dX0_weightOf_6 rfl ?_
  refine v_sub (ls2 := [(0, bR _), (1, bR _), (2, bI _), (3, bR _), (4, bI _)]) [1, 2, 3, 4, 0] rfl ?_
  refine l_X0_weightOf_a_5_125_8 (b_wp_m (fun t h => ?_) (b_wp_b h))
  cases t with
  | inr o => exact h
  | inl t =>
    show V l E xX0_weightOf (0, 0) 80 [] [] _ (b_pI Q)
    replace h := b_wp_inl h
    exact t_X0_weightOf_a_5_125_b80 h
theorem cf_X0_weightOf_a_5_125 {l : Launch} {E : bE} {M : bM} {v0 : Nat} {v2 : Int} {Q : (Int × bM) → Prop} (h : b_wp (F_X0_weightOf_a_5_125 v0 v2 M) Q) : b_C l E xX0_weightOf yX0_weightOf [bR v0, bR 5, bI v2, bR 125] M (b_pI Q) := b_met (by decide) ⟨rfl, rfl⟩ (Nat.le_of_ble_eq_true rfl) (fun _ _ => t_X0_weightOf_a_5_125 h)
abbrev xX7_weighBy : bX := ("BurntHall$Papers", prog_9_method_12_code, 4, (Option.none : Option Jvm.ClassFile.FieldType), b_rm 5 0 0, 0, "weighBy")
abbrev yX7_weighBy : MethodName := ⟨"BurntHall$Papers", "weighBy", "(IILBurntHall$Acts;)V"⟩
theorem dX7_weighBy_0 : decode prog_9_method_12_code 0 = .ok (.aload_n 0, 1) := by decide +kernel
theorem dX7_weighBy_1 : decode prog_9_method_12_code 1 = .ok (.iload_n 1, 1) := by decide +kernel
theorem dX7_weighBy_2 : decode prog_9_method_12_code 2 = .ok (.invokevirtual 105, 3) := by decide +kernel
theorem dX7_weighBy_5 : decode prog_9_method_12_code 5 = .ok (.ifCond .eq 38, 3) := by decide +kernel
theorem dX7_weighBy_8 : decode prog_9_method_12_code 8 = .ok (.iload_n 2, 1) := by decide +kernel
theorem dX7_weighBy_9 : decode prog_9_method_12_code 9 = .ok (.ifCond .le 34, 3) := by decide +kernel
theorem dX7_weighBy_12 : decode prog_9_method_12_code 12 = .ok (.iload_n 2, 1) := by decide +kernel
theorem dX7_weighBy_13 : decode prog_9_method_12_code 13 = .ok (.bipush 9, 2) := by decide +kernel
theorem dX7_weighBy_15 : decode prog_9_method_12_code 15 = .ok (.if_icmp .ge 28, 3) := by decide +kernel
theorem dX7_weighBy_18 : decode prog_9_method_12_code 18 = .ok (.aload_n 0, 1) := by decide +kernel
theorem dX7_weighBy_19 : decode prog_9_method_12_code 19 = .ok (.getfield 61, 3) := by decide +kernel
theorem dX7_weighBy_22 : decode prog_9_method_12_code 22 = .ok (.iload_n 1, 1) := by decide +kernel
theorem dX7_weighBy_23 : decode prog_9_method_12_code 23 = .ok (.bipush 9, 2) := by decide +kernel
theorem dX7_weighBy_25 : decode prog_9_method_12_code 25 = .ok (.imul, 1) := by decide +kernel
theorem dX7_weighBy_26 : decode prog_9_method_12_code 26 = .ok (.iload_n 2, 1) := by decide +kernel
theorem dX7_weighBy_27 : decode prog_9_method_12_code 27 = .ok (.iadd, 1) := by decide +kernel
theorem dX7_weighBy_28 : decode prog_9_method_12_code 28 = .ok (.aload_n 3, 1) := by decide +kernel
theorem dX7_weighBy_29 : decode prog_9_method_12_code 29 = .ok (.iload_n 2, 1) := by decide +kernel
theorem dX7_weighBy_30 : decode prog_9_method_12_code 30 = .ok (.invokevirtual 114, 3) := by decide +kernel
theorem dX7_weighBy_33 : decode prog_9_method_12_code 33 = .ok (.aload_n 0, 1) := by decide +kernel
theorem dX7_weighBy_34 : decode prog_9_method_12_code 34 = .ok (.iload_n 1, 1) := by decide +kernel
theorem dX7_weighBy_35 : decode prog_9_method_12_code 35 = .ok (.aload_n 0, 1) := by decide +kernel
theorem dX7_weighBy_36 : decode prog_9_method_12_code 36 = .ok (.getfield 64, 3) := by decide +kernel
theorem dX7_weighBy_39 : decode prog_9_method_12_code 39 = .ok (.invokevirtual 118, 3) := by decide +kernel
theorem dX7_weighBy_42 : decode prog_9_method_12_code 42 = .ok (.iastore, 1) := by decide +kernel
theorem dX7_weighBy_43 : decode prog_9_method_12_code 43 = .ok (.return_, 1) := by decide +kernel
noncomputable def F_X7_weighBy_4 (v1 : Int) (v2 : Int) (M : bM) : Option (bM) :=
  b_bind (F_X7_has v1 M) (fun x1 => if x1 = 0 then (some M) else (if v2 ≤ 0 then (some M) else (if 9 ≤ v2 then (some M) else (b_g ((b_i32 (v1 * 9)) ∧ (b_i32 ((v1 * 9) + v2))) (b_bind (F_X1_slot v2 M) (fun x7 => b_g (12 ≤ x7 ∧ x7 < 22) (b_bind (F_X0_weightOf_a_5_125 x7 v1 M) (fun t => b_two t (fun x9 M10 => b_g (0 ≤ ((v1 * 9) + v2) ∧ ((v1 * 9) + v2) < 1080) (b_let (b_up M10 124 ((v1 * 9) + v2) x9) (fun M12 => some M12)))))))))))
theorem t_X7_weighBy_4 {l : Launch} {E : bE} {Q : bM → Prop} {v1 : Int} {v2 : Int} {M : bM} (h : b_wp (F_X7_weighBy_4 v1 v2 M) (Q)) : V l E xX7_weighBy (0, 0) 0 [(0, bR 5), (1, bI v1), (2, bI v2), (3, bR 4)] [] M (b_pV Q) := by
  unfold F_X7_weighBy_4 at h
  refine v_aload_n (f := 0) 0 rfl dX7_weighBy_0 ?_
  refine v_iload_n (f := 1) 1 rfl dX7_weighBy_1 ?_
  refine v_cVIp (nA := 1) (As := [bI _]) (ix := 105) (cf_X7_has (b_wp_b h)) rfl kd_5 rfl rfl wc_X7_has wm_7_105 wi_X7_has ws_X7_has wn_7 ⟨by decide, by decide, by decide⟩ rfl ⟨by decide, by decide⟩ ⟨by decide, by decide⟩ (Nat.le_of_ble_eq_true rfl) dX7_weighBy_2 (fun x1 h => ?_)
  refine v_if_eq (tgt := 43) dX7_weighBy_5 (by decide) (fun c2 => ?_) (fun c2 => ?_)
  · replace h := b_wp_t c2 h
    refine v_return rfl dX7_weighBy_43 ⟨by decide, by decide⟩ ?_
    exact ⟨rfl, h⟩
  · replace h := b_wp_f c2 h
    refine v_iload_n (f := 2) 2 rfl dX7_weighBy_8 ?_
    refine v_if_le (tgt := 43) dX7_weighBy_9 (by decide) (fun c3 => ?_) (fun c3 => ?_)
    · replace h := b_wp_t c3 h
      refine v_return rfl dX7_weighBy_43 ⟨by decide, by decide⟩ ?_
      exact ⟨rfl, h⟩
    · replace h := b_wp_f c3 h
      refine v_iload_n (f := 2) 2 rfl dX7_weighBy_12 ?_
      refine v_bipush ⟨by decide, by decide⟩ (by decide) dX7_weighBy_13 ?_
      refine v_icmp_ge (tgt := 43) dX7_weighBy_15 (by decide) (fun c4 => ?_) (fun c4 => ?_)
      · replace h := b_wp_t c4 h
        refine v_return rfl dX7_weighBy_43 ⟨by decide, by decide⟩ ?_
        exact ⟨rfl, h⟩
      · replace h := b_wp_f c4 h
        obtain ⟨⟨g5, g6⟩, h⟩ := b_wp_g h
        refine v_aload_n (f := 0) 0 rfl dX7_weighBy_18 ?_
        refine v_getR (kf := 17) (kz := 17) rfl kd_5 rfl ⟨by decide, by decide⟩ rfl wf_7_61 dX7_weighBy_19 ?_
        refine v_iload_n (f := 1) 1 rfl dX7_weighBy_22 ?_
        refine v_bipush ⟨by decide, by decide⟩ (by decide) dX7_weighBy_23 ?_
        refine v_imulN g5 dX7_weighBy_25 ?_
        refine v_iload_n (f := 2) 2 rfl dX7_weighBy_26 ?_
        refine v_iaddN g6 dX7_weighBy_27 ?_
        refine v_aload_n (f := 3) 3 rfl dX7_weighBy_28 ?_
        refine v_iload_n (f := 2) 2 rfl dX7_weighBy_29 ?_
        refine v_cVAp (nA := 1) (As := [bI _]) (ix := 114) (cf_X1_slot (b_wp_b h)) rfl kd_4 rfl rfl wc_X1_slot wm_7_114 wi_X1_slot ws_X1_slot wn_1 ⟨by decide, by decide, by decide⟩ rfl ⟨by decide, by decide⟩ ⟨by decide, by decide⟩ (Nat.le_of_ble_eq_true rfl) dX7_weighBy_30 (fun x7 h => ?_)
        obtain ⟨g8, h⟩ := b_wp_g h
        refine v_aload_n (f := 0) 0 rfl dX7_weighBy_33 ?_
        refine v_iload_n (f := 1) 1 rfl dX7_weighBy_34 ?_
        refine v_aload_n (f := 0) 0 rfl dX7_weighBy_35 ?_
        refine v_getR (kf := 18) (kz := 18) rfl kd_5 rfl ⟨by decide, by decide⟩ rfl wf_7_64 dX7_weighBy_36 ?_
        refine v_cVI (nA := 3) (As := [bR _, bI _, bR _]) (ix := 118) (cf_X0_weightOf_a_5_125 (b_wp_b h)) rfl (kd_act0 g8) rfl rfl wc_X0_weightOf wm_7_118 wi_X0_weightOf ws_X0_weightOf wn_0 ⟨by decide, by decide, by decide⟩ rfl ⟨by decide, by decide⟩ ⟨by decide, by decide⟩ (Nat.le_of_ble_eq_true rfl) dX7_weighBy_39 (fun x9 M10 h => ?_)
        replace h := b_wp_two h
        obtain ⟨g11, h⟩ := b_wp_g h
        refine v_iastore kd_124 g11 (by decide) dX7_weighBy_42 ?_
        replace h := b_wp_l h
        refine v_return rfl dX7_weighBy_43 ⟨by decide, by decide⟩ ?_
        exact ⟨rfl, h⟩
theorem cf_X7_weighBy_4 {l : Launch} {E : bE} {M : bM} {v1 : Int} {v2 : Int} {Q : bM → Prop} (h : b_wp (F_X7_weighBy_4 v1 v2 M) Q) : b_C l E xX7_weighBy yX7_weighBy [bR 5, bI v1, bI v2, bR 4] M (b_pV Q) := b_met (by decide) ⟨rfl, rfl⟩ (Nat.le_of_ble_eq_true rfl) (fun _ _ => t_X7_weighBy_4 h)
abbrev xX7_weigh : bX := ("BurntHall$Papers", prog_9_method_10_code, 4, (Option.none : Option Jvm.ClassFile.FieldType), b_rm 6 0 0, 0, "weigh")
abbrev yX7_weigh : MethodName := ⟨"BurntHall$Papers", "weigh", "(ILBurntHall$Acts;)V"⟩
theorem dX7_weigh_0 : decode prog_9_method_10_code 0 = .ok (.iconst 1, 1) := by decide +kernel
theorem dX7_weigh_1 : decode prog_9_method_10_code 1 = .ok (.istore_n 3, 1) := by decide +kernel
theorem dX7_weigh_2 : decode prog_9_method_10_code 2 = .ok (.iload_n 3, 1) := by decide +kernel
theorem dX7_weigh_3 : decode prog_9_method_10_code 3 = .ok (.aload_n 2, 1) := by decide +kernel
theorem dX7_weigh_4 : decode prog_9_method_10_code 4 = .ok (.getfield 109, 3) := by decide +kernel
theorem dX7_weigh_7 : decode prog_9_method_10_code 7 = .ok (.if_icmp .gt 22, 3) := by decide +kernel
theorem dX7_weigh_10 : decode prog_9_method_10_code 10 = .ok (.iload_n 3, 1) := by decide +kernel
theorem dX7_weigh_11 : decode prog_9_method_10_code 11 = .ok (.bipush 9, 2) := by decide +kernel
theorem dX7_weigh_13 : decode prog_9_method_10_code 13 = .ok (.if_icmp .ge 16, 3) := by decide +kernel
theorem dX7_weigh_16 : decode prog_9_method_10_code 16 = .ok (.aload_n 0, 1) := by decide +kernel
theorem dX7_weigh_17 : decode prog_9_method_10_code 17 = .ok (.iload_n 1, 1) := by decide +kernel
theorem dX7_weigh_18 : decode prog_9_method_10_code 18 = .ok (.iload_n 3, 1) := by decide +kernel
theorem dX7_weigh_19 : decode prog_9_method_10_code 19 = .ok (.aload_n 2, 1) := by decide +kernel
theorem dX7_weigh_20 : decode prog_9_method_10_code 20 = .ok (.invokevirtual 110, 3) := by decide +kernel
theorem dX7_weigh_23 : decode prog_9_method_10_code 23 = .ok (.iinc 3 1, 3) := by decide +kernel
theorem dX7_weigh_26 : decode prog_9_method_10_code 26 = .ok (.goto (-24), 3) := by decide +kernel
theorem dX7_weigh_29 : decode prog_9_method_10_code 29 = .ok (.return_, 1) := by decide +kernel
abbrev A_X7_weigh_4_2 (l : Launch) (E : bE) (Q : bM → Prop) (v1 : Int) : (Int × bM) → Prop := (fun t : Int × bM => V l E xX7_weigh (0, 0) 2 [(0, bR 5), (1, bI v1), (2, bR 4), (3, bI (t.1))] [] t.2 (b_pV Q))
abbrev X_X7_weigh_4_2 (l : Launch) (E : bE) (Q : bM → Prop) (v1 : Int) : (bM) → Prop := (fun t : bM => V l E xX7_weigh (0, 0) 29 [] [] t (b_pV Q))
noncomputable def F_X7_weigh_4_s2 (v1 : Int) (v3 : Int) (M : bM) : Option ((Int × bM) ⊕ (bM)) :=
  if (M 4 0) < v3 then (some (.inr (M))) else (if 9 ≤ v3 then (some (.inr (M))) else (b_bind (F_X7_weighBy_4 v1 v3 M) (fun M3 => b_g (b_i32 (v3 + 1)) (some (.inl ((v3 + 1), M3))))))
theorem t_X7_weigh_4_s2 {l : Launch} {E : bE} {Q : bM → Prop} {v1 : Int} {v3 : Int} {M : bM} (h : b_wp (F_X7_weigh_4_s2 v1 v3 M) (Sum.elim (A_X7_weigh_4_2 l E Q v1) (X_X7_weigh_4_2 l E Q v1))) : V l E xX7_weigh (0, 0) 2 [(0, bR 5), (1, bI v1), (2, bR 4), (3, bI v3)] [] M (b_pV Q) := by
  unfold F_X7_weigh_4_s2 at h
  refine v_iload_n (f := 3) 3 rfl dX7_weigh_2 ?_
  refine v_aload_n (f := 2) 2 rfl dX7_weigh_3 ?_
  refine v_getI (kf := 0) (kz := 0) rfl kd_4 rfl ⟨by decide, by decide⟩ rfl wf_7_109 dX7_weigh_4 ?_
  refine v_icmp_gt (tgt := 29) dX7_weigh_7 (by decide) (fun c1 => ?_) (fun c1 => ?_)
  · replace h := b_wp_t c1 h
    refine v_sub (ls2 := []) [] rfl ?_
    exact h
  · replace h := b_wp_f c1 h
    refine v_iload_n (f := 3) 3 rfl dX7_weigh_10 ?_
    refine v_bipush ⟨by decide, by decide⟩ (by decide) dX7_weigh_11 ?_
    refine v_icmp_ge (tgt := 29) dX7_weigh_13 (by decide) (fun c2 => ?_) (fun c2 => ?_)
    · replace h := b_wp_t c2 h
      refine v_sub (ls2 := []) [] rfl ?_
      exact h
    · replace h := b_wp_f c2 h
      refine v_aload_n (f := 0) 0 rfl dX7_weigh_16 ?_
      refine v_iload_n (f := 1) 1 rfl dX7_weigh_17 ?_
      refine v_iload_n (f := 3) 3 rfl dX7_weigh_18 ?_
      refine v_aload_n (f := 2) 2 rfl dX7_weigh_19 ?_
      refine v_cVV (nA := 3) (As := [bI _, bI _, bR _]) (ix := 110) (cf_X7_weighBy_4 (b_wp_b h)) rfl kd_5 rfl rfl wc_X7_weighBy wm_7_110 wi_X7_weighBy ws_X7_weighBy wn_7 ⟨by decide, by decide, by decide⟩ rfl ⟨by decide, by decide⟩ ⟨by decide, by decide⟩ (Nat.le_of_ble_eq_true rfl) dX7_weigh_20 (fun M3 h => ?_)
      obtain ⟨g4, h⟩ := b_wp_g h
      refine v_iincN (ls' := [(3, bI _), (0, bR _), (1, bI _), (2, bR _)]) 3 rfl (by decide) g4 dX7_weigh_23 rfl ?_
      refine v_goto (tgt := 2) dX7_weigh_26 (by decide) ?_
      refine v_sub (ls2 := [(0, bR _), (1, bI _), (2, bR _), (3, bI _)]) [1, 2, 3, 0] rfl ?_
      exact h
theorem l_X7_weigh_4_2 {l : Launch} {E : bE} {Q : bM → Prop} {v1 : Int} {s : Int × bM} (h : b_wp (b_loop (fun t => F_X7_weigh_4_s2 v1 t.1 t.2) s) (X_X7_weigh_4_2 l E Q v1)) : A_X7_weigh_4_2 l E Q v1 s := b_loop_wp (fun t h => t_X7_weigh_4_s2 h) s h
noncomputable def F_X7_weigh_4_b29 (M : bM) : Option (bM) :=
  some M
theorem t_X7_weigh_4_b29 {l : Launch} {E : bE} {Q : bM → Prop} {M : bM} (h : b_wp (F_X7_weigh_4_b29 M) (Q)) : V l E xX7_weigh (0, 0) 29 [] [] M (b_pV Q) := by
  unfold F_X7_weigh_4_b29 at h
  refine v_return rfl dX7_weigh_29 ⟨by decide, by decide⟩ ?_
  exact ⟨rfl, h⟩
noncomputable def F_X7_weigh_4 (v1 : Int) (M : bM) : Option (bM) :=
  b_bind (b_loop (fun t => F_X7_weigh_4_s2 v1 t.1 t.2) (1, M)) (fun t => F_X7_weigh_4_b29 t)
theorem t_X7_weigh_4 {l : Launch} {E : bE} {Q : bM → Prop} {v1 : Int} {M : bM} (h : b_wp (F_X7_weigh_4 v1 M) (Q)) : V l E xX7_weigh (0, 0) 0 [(0, bR 5), (1, bI v1), (2, bR 4)] [] M (b_pV Q) := by
  unfold F_X7_weigh_4 at h
  refine v_iconst ⟨by decide, by decide⟩ dX7_weigh_0 ?_
  refine v_istore_n (g := 3) (i := 3) (ls' := [(3, bI _), (0, bR _), (1, bI _), (2, bR _)]) rfl (by decide) dX7_weigh_1 rfl ?_
  refine v_sub (ls2 := [(0, bR _), (1, bI _), (2, bR _), (3, bI _)]) [1, 2, 3, 0] rfl ?_
  refine l_X7_weigh_4_2 (b_wp_m (fun t h => ?_) (b_wp_b h))
  show V l E xX7_weigh (0, 0) 29 [] [] _ (b_pV Q)
  exact t_X7_weigh_4_b29 h
theorem cf_X7_weigh_4 {l : Launch} {E : bE} {M : bM} {v1 : Int} {Q : bM → Prop} (h : b_wp (F_X7_weigh_4 v1 M) Q) : b_C l E xX7_weigh yX7_weigh [bR 5, bI v1, bR 4] M (b_pV Q) := b_met (by decide) ⟨rfl, rfl⟩ (Nat.le_of_ble_eq_true rfl) (fun _ _ => t_X7_weigh_4 h)
abbrev xX11_isNoneOr : bX := ("BurntHall", prog_1_method_57_code, 2, (Option.some Jvm.ClassFile.FieldType.boolean), b_rm 1 0 0, 0, "isNoneOr")
abbrev yX11_isNoneOr : MethodName := ⟨"BurntHall", "isNoneOr", "(II)Z"⟩
theorem dX11_isNoneOr_0 : decode prog_1_method_57_code 0 = .ok (.iload_n 0, 1) := by decide +kernel
theorem dX11_isNoneOr_1 : decode prog_1_method_57_code 1 = .ok (.iconst (-1), 1) := by decide +kernel
theorem dX11_isNoneOr_2 : decode prog_1_method_57_code 2 = .ok (.if_icmp .lt 12, 3) := by decide +kernel
theorem dX11_isNoneOr_5 : decode prog_1_method_57_code 5 = .ok (.iload_n 0, 1) := by decide +kernel
theorem dX11_isNoneOr_6 : decode prog_1_method_57_code 6 = .ok (.iload_n 1, 1) := by decide +kernel
theorem dX11_isNoneOr_7 : decode prog_1_method_57_code 7 = .ok (.if_icmp .ge 7, 3) := by decide +kernel
theorem dX11_isNoneOr_10 : decode prog_1_method_57_code 10 = .ok (.iconst 1, 1) := by decide +kernel
theorem dX11_isNoneOr_11 : decode prog_1_method_57_code 11 = .ok (.goto 4, 3) := by decide +kernel
theorem dX11_isNoneOr_14 : decode prog_1_method_57_code 14 = .ok (.iconst 0, 1) := by decide +kernel
theorem dX11_isNoneOr_15 : decode prog_1_method_57_code 15 = .ok (.ireturn, 1) := by decide +kernel
noncomputable def F_X11_isNoneOr (v0 : Int) (v1 : Int) (M : bM) : Option (Int) :=
  if v0 < (-1) then (some 0) else (if v1 ≤ v0 then (some 0) else (some 1))
theorem t_X11_isNoneOr {l : Launch} {E : bE} {Q : Int → Prop} {v0 : Int} {v1 : Int} {M : bM} (h : b_wp (F_X11_isNoneOr v0 v1 M) (Q)) : V l E xX11_isNoneOr (0, 0) 0 [(0, bI v0), (1, bI v1)] [] M (b_pIp M Q) := by
  unfold F_X11_isNoneOr at h
  refine v_iload_n (f := 0) 0 rfl dX11_isNoneOr_0 ?_
  refine v_iconst ⟨by decide, by decide⟩ dX11_isNoneOr_1 ?_
  refine v_icmp_lt (tgt := 14) dX11_isNoneOr_2 (by decide) (fun c1 => ?_) (fun c1 => ?_)
  · replace h := b_wp_t c1 h
    refine v_iconst ⟨by decide, by decide⟩ dX11_isNoneOr_14 ?_
    refine v_zreturn rfl (Or.inl rfl) dX11_isNoneOr_15 ⟨by decide, by decide⟩ ?_
    exact ⟨_, rfl, rfl, h⟩
  · replace h := b_wp_f c1 h
    refine v_iload_n (f := 0) 0 rfl dX11_isNoneOr_5 ?_
    refine v_iload_n (f := 1) 1 rfl dX11_isNoneOr_6 ?_
    refine v_icmp_ge (tgt := 14) dX11_isNoneOr_7 (by decide) (fun c2 => ?_) (fun c2 => ?_)
    · replace h := b_wp_t c2 h
      refine v_iconst ⟨by decide, by decide⟩ dX11_isNoneOr_14 ?_
      refine v_zreturn rfl (Or.inl rfl) dX11_isNoneOr_15 ⟨by decide, by decide⟩ ?_
      exact ⟨_, rfl, rfl, h⟩
    · replace h := b_wp_f c2 h
      refine v_iconst ⟨by decide, by decide⟩ dX11_isNoneOr_10 ?_
      refine v_goto (tgt := 15) dX11_isNoneOr_11 (by decide) ?_
      refine v_zreturn rfl (Or.inr rfl) dX11_isNoneOr_15 ⟨by decide, by decide⟩ ?_
      exact ⟨_, rfl, rfl, h⟩
theorem cf_X11_isNoneOr {l : Launch} {E : bE} {M : bM} {v0 : Int} {v1 : Int} {Q : Int → Prop} (h : b_wp (F_X11_isNoneOr v0 v1 M) Q) : b_C l E xX11_isNoneOr yX11_isNoneOr [bI v0, bI v1] M (b_pIp M Q) := b_met (by decide) ⟨rfl, rfl⟩ (Nat.le_of_ble_eq_true rfl) (fun _ _ => t_X11_isNoneOr h)
abbrev xX7_readMark : bX := ("BurntHall$Papers", prog_9_method_4_code, 3, (Option.some Jvm.ClassFile.FieldType.boolean), b_rm 3 0 0, 0, "readMark")
abbrev yX7_readMark : MethodName := ⟨"BurntHall$Papers", "readMark", "(LBurntHall$Tape;)Z"⟩
theorem dX7_readMark_0 : decode prog_9_method_4_code 0 = .ok (.aload_n 1, 1) := by decide +kernel
theorem dX7_readMark_1 : decode prog_9_method_4_code 1 = .ok (.getfield 78, 3) := by decide +kernel
theorem dX7_readMark_4 : decode prog_9_method_4_code 4 = .ok (.iconst 1, 1) := by decide +kernel
theorem dX7_readMark_5 : decode prog_9_method_4_code 5 = .ok (.if_icmp .ne 12, 3) := by decide +kernel
theorem dX7_readMark_8 : decode prog_9_method_4_code 8 = .ok (.aload_n 0, 1) := by decide +kernel
theorem dX7_readMark_9 : decode prog_9_method_4_code 9 = .ok (.getfield 75, 3) := by decide +kernel
theorem dX7_readMark_12 : decode prog_9_method_4_code 12 = .ok (.bipush 12, 2) := by decide +kernel
theorem dX7_readMark_14 : decode prog_9_method_4_code 14 = .ok (.if_icmp .lt 5, 3) := by decide +kernel
theorem dX7_readMark_17 : decode prog_9_method_4_code 17 = .ok (.iconst 0, 1) := by decide +kernel
theorem dX7_readMark_18 : decode prog_9_method_4_code 18 = .ok (.ireturn, 1) := by decide +kernel
theorem dX7_readMark_19 : decode prog_9_method_4_code 19 = .ok (.iconst 0, 1) := by decide +kernel
theorem dX7_readMark_20 : decode prog_9_method_4_code 20 = .ok (.istore_n 2, 1) := by decide +kernel
theorem dX7_readMark_21 : decode prog_9_method_4_code 21 = .ok (.iload_n 2, 1) := by decide +kernel
theorem dX7_readMark_22 : decode prog_9_method_4_code 22 = .ok (.aload_n 0, 1) := by decide +kernel
theorem dX7_readMark_23 : decode prog_9_method_4_code 23 = .ok (.getfield 75, 3) := by decide +kernel
theorem dX7_readMark_26 : decode prog_9_method_4_code 26 = .ok (.if_icmp .ge 25, 3) := by decide +kernel
theorem dX7_readMark_29 : decode prog_9_method_4_code 29 = .ok (.aload_n 0, 1) := by decide +kernel
theorem dX7_readMark_30 : decode prog_9_method_4_code 30 = .ok (.getfield 55, 3) := by decide +kernel
theorem dX7_readMark_33 : decode prog_9_method_4_code 33 = .ok (.iload_n 2, 1) := by decide +kernel
theorem dX7_readMark_34 : decode prog_9_method_4_code 34 = .ok (.laload, 1) := by decide +kernel
theorem dX7_readMark_35 : decode prog_9_method_4_code 35 = .ok (.aload_n 1, 1) := by decide +kernel
theorem dX7_readMark_36 : decode prog_9_method_4_code 36 = .ok (.getfield 84, 3) := by decide +kernel
theorem dX7_readMark_39 : decode prog_9_method_4_code 39 = .ok (.lcmp, 1) := by decide +kernel
theorem dX7_readMark_40 : decode prog_9_method_4_code 40 = .ok (.ifCond .ne 5, 3) := by decide +kernel
theorem dX7_readMark_43 : decode prog_9_method_4_code 43 = .ok (.iconst 0, 1) := by decide +kernel
theorem dX7_readMark_44 : decode prog_9_method_4_code 44 = .ok (.ireturn, 1) := by decide +kernel
theorem dX7_readMark_45 : decode prog_9_method_4_code 45 = .ok (.iinc 2 1, 3) := by decide +kernel
theorem dX7_readMark_48 : decode prog_9_method_4_code 48 = .ok (.goto (-27), 3) := by decide +kernel
theorem dX7_readMark_51 : decode prog_9_method_4_code 51 = .ok (.aload_n 0, 1) := by decide +kernel
theorem dX7_readMark_52 : decode prog_9_method_4_code 52 = .ok (.getfield 55, 3) := by decide +kernel
theorem dX7_readMark_55 : decode prog_9_method_4_code 55 = .ok (.aload_n 0, 1) := by decide +kernel
theorem dX7_readMark_56 : decode prog_9_method_4_code 56 = .ok (.getfield 75, 3) := by decide +kernel
theorem dX7_readMark_59 : decode prog_9_method_4_code 59 = .ok (.aload_n 1, 1) := by decide +kernel
theorem dX7_readMark_60 : decode prog_9_method_4_code 60 = .ok (.getfield 84, 3) := by decide +kernel
theorem dX7_readMark_63 : decode prog_9_method_4_code 63 = .ok (.lastore, 1) := by decide +kernel
theorem dX7_readMark_64 : decode prog_9_method_4_code 64 = .ok (.aload_n 0, 1) := by decide +kernel
theorem dX7_readMark_65 : decode prog_9_method_4_code 65 = .ok (.getfield 58, 3) := by decide +kernel
theorem dX7_readMark_68 : decode prog_9_method_4_code 68 = .ok (.aload_n 0, 1) := by decide +kernel
theorem dX7_readMark_69 : decode prog_9_method_4_code 69 = .ok (.getfield 75, 3) := by decide +kernel
theorem dX7_readMark_72 : decode prog_9_method_4_code 72 = .ok (.iconst 1, 1) := by decide +kernel
theorem dX7_readMark_73 : decode prog_9_method_4_code 73 = .ok (.iastore, 1) := by decide +kernel
theorem dX7_readMark_74 : decode prog_9_method_4_code 74 = .ok (.aload_n 1, 1) := by decide +kernel
theorem dX7_readMark_75 : decode prog_9_method_4_code 75 = .ok (.invokevirtual 88, 3) := by decide +kernel
theorem dX7_readMark_78 : decode prog_9_method_4_code 78 = .ok (.aload_n 1, 1) := by decide +kernel
theorem dX7_readMark_79 : decode prog_9_method_4_code 79 = .ok (.bipush 61, 2) := by decide +kernel
theorem dX7_readMark_81 : decode prog_9_method_4_code 81 = .ok (.invokevirtual 91, 3) := by decide +kernel
theorem dX7_readMark_84 : decode prog_9_method_4_code 84 = .ok (.ifCond .eq 34, 3) := by decide +kernel
theorem dX7_readMark_87 : decode prog_9_method_4_code 87 = .ok (.aload_n 1, 1) := by decide +kernel
theorem dX7_readMark_88 : decode prog_9_method_4_code 88 = .ok (.invokevirtual 88, 3) := by decide +kernel
theorem dX7_readMark_91 : decode prog_9_method_4_code 91 = .ok (.aload_n 1, 1) := by decide +kernel
theorem dX7_readMark_92 : decode prog_9_method_4_code 92 = .ok (.getfield 78, 3) := by decide +kernel
theorem dX7_readMark_95 : decode prog_9_method_4_code 95 = .ok (.iconst 2, 1) := by decide +kernel
theorem dX7_readMark_96 : decode prog_9_method_4_code 96 = .ok (.if_icmp .eq 5, 3) := by decide +kernel
theorem dX7_readMark_99 : decode prog_9_method_4_code 99 = .ok (.iconst 0, 1) := by decide +kernel
theorem dX7_readMark_100 : decode prog_9_method_4_code 100 = .ok (.ireturn, 1) := by decide +kernel
theorem dX7_readMark_101 : decode prog_9_method_4_code 101 = .ok (.aload_n 0, 1) := by decide +kernel
theorem dX7_readMark_102 : decode prog_9_method_4_code 102 = .ok (.getfield 58, 3) := by decide +kernel
theorem dX7_readMark_105 : decode prog_9_method_4_code 105 = .ok (.aload_n 0, 1) := by decide +kernel
theorem dX7_readMark_106 : decode prog_9_method_4_code 106 = .ok (.getfield 75, 3) := by decide +kernel
theorem dX7_readMark_109 : decode prog_9_method_4_code 109 = .ok (.aload_n 1, 1) := by decide +kernel
theorem dX7_readMark_110 : decode prog_9_method_4_code 110 = .ok (.invokevirtual 95, 3) := by decide +kernel
theorem dX7_readMark_113 : decode prog_9_method_4_code 113 = .ok (.iastore, 1) := by decide +kernel
theorem dX7_readMark_114 : decode prog_9_method_4_code 114 = .ok (.aload_n 1, 1) := by decide +kernel
theorem dX7_readMark_115 : decode prog_9_method_4_code 115 = .ok (.invokevirtual 88, 3) := by decide +kernel
theorem dX7_readMark_118 : decode prog_9_method_4_code 118 = .ok (.aload_n 0, 1) := by decide +kernel
theorem dX7_readMark_119 : decode prog_9_method_4_code 119 = .ok (.dup, 1) := by decide +kernel
theorem dX7_readMark_120 : decode prog_9_method_4_code 120 = .ok (.getfield 75, 3) := by decide +kernel
theorem dX7_readMark_123 : decode prog_9_method_4_code 123 = .ok (.iconst 1, 1) := by decide +kernel
theorem dX7_readMark_124 : decode prog_9_method_4_code 124 = .ok (.iadd, 1) := by decide +kernel
theorem dX7_readMark_125 : decode prog_9_method_4_code 125 = .ok (.putfield 75, 3) := by decide +kernel
theorem dX7_readMark_128 : decode prog_9_method_4_code 128 = .ok (.aload_n 1, 1) := by decide +kernel
theorem dX7_readMark_129 : decode prog_9_method_4_code 129 = .ok (.bipush 59, 2) := by decide +kernel
theorem dX7_readMark_131 : decode prog_9_method_4_code 131 = .ok (.invokevirtual 91, 3) := by decide +kernel
theorem dX7_readMark_134 : decode prog_9_method_4_code 134 = .ok (.istore_n 2, 1) := by decide +kernel
theorem dX7_readMark_135 : decode prog_9_method_4_code 135 = .ok (.aload_n 1, 1) := by decide +kernel
theorem dX7_readMark_136 : decode prog_9_method_4_code 136 = .ok (.invokevirtual 88, 3) := by decide +kernel
theorem dX7_readMark_139 : decode prog_9_method_4_code 139 = .ok (.iload_n 2, 1) := by decide +kernel
theorem dX7_readMark_140 : decode prog_9_method_4_code 140 = .ok (.ireturn, 1) := by decide +kernel
abbrev A_X7_readMark_1_21 (l : Launch) (E : bE) (Q : (Int × bM) → Prop) (M : bM) : (Int) → Prop := (fun t : Int => V l E xX7_readMark (0, 0) 21 [(0, bR 5), (1, bR 1), (2, bI t)] [] M (b_pI Q))
abbrev X_X7_readMark_1_21 (l : Launch) (E : bE) (Q : (Int × bM) → Prop) (M : bM) : ((Unit) ⊕ (Int × bM)) → Prop := (Sum.elim (fun t : Unit => V l E xX7_readMark (0, 0) 51 [(0, bR 5), (1, bR 1)] [] M (b_pI Q)) Q)
noncomputable def F_X7_readMark_1_s21 (v2 : Int) (M : bM) : Option ((Int) ⊕ ((Unit) ⊕ (Int × bM))) :=
  if (M 5 16) ≤ v2 then (some (.inr (.inl ()))) else (b_g (0 ≤ v2 ∧ v2 < 12) (if (j_cmp (M 122 v2) (M 1 4)) = 0 then (some (.inr (.inr (0, M)))) else (b_g (b_i32 (v2 + 1)) (some (.inl ((v2 + 1)))))))
theorem t_X7_readMark_1_s21 {l : Launch} {E : bE} {Q : (Int × bM) → Prop} {v2 : Int} {M : bM} (h : b_wp (F_X7_readMark_1_s21 v2 M) (Sum.elim (A_X7_readMark_1_21 l E Q M) (X_X7_readMark_1_21 l E Q M))) : V l E xX7_readMark (0, 0) 21 [(0, bR 5), (1, bR 1), (2, bI v2)] [] M (b_pI Q) := by
  unfold F_X7_readMark_1_s21 at h
  refine v_iload_n (f := 2) 2 rfl dX7_readMark_21 ?_
  refine v_aload_n (f := 0) 0 rfl dX7_readMark_22 ?_
  refine v_getI (kf := 16) (kz := 16) rfl kd_5 rfl ⟨by decide, by decide⟩ rfl wf_7_75 dX7_readMark_23 ?_
  refine v_icmp_ge (tgt := 51) dX7_readMark_26 (by decide) (fun c3 => ?_) (fun c3 => ?_)
  · replace h := b_wp_t c3 h
    refine v_sub (ls2 := [(0, bR _), (1, bR _)]) [0, 1] rfl ?_
    exact h
  · replace h := b_wp_f c3 h
    obtain ⟨g4, h⟩ := b_wp_g h
    refine v_aload_n (f := 0) 0 rfl dX7_readMark_29 ?_
    refine v_getR (kf := 14) (kz := 14) rfl kd_5 rfl ⟨by decide, by decide⟩ rfl wf_7_55 dX7_readMark_30 ?_
    refine v_iload_n (f := 2) 2 rfl dX7_readMark_33 ?_
    refine v_laload kd_122 g4 (by decide) dX7_readMark_34 ?_
    refine v_aload_n (f := 1) 1 rfl dX7_readMark_35 ?_
    refine v_getJ (kf := 4) (kz := 4) rfl kd_1 rfl ⟨by decide, by decide⟩ rfl wf_7_84 dX7_readMark_36 ?_
    refine v_lcmpN dX7_readMark_39 ?_
    refine v_if_ne (tgt := 45) dX7_readMark_40 (by decide) (fun c5 => ?_) (fun c5 => ?_)
    · replace h := b_wp_f c5 h
      obtain ⟨g6, h⟩ := b_wp_g h
      refine v_iincN (ls' := [(2, bI _), (0, bR _), (1, bR _)]) 2 rfl (by decide) g6 dX7_readMark_45 rfl ?_
      refine v_goto (tgt := 21) dX7_readMark_48 (by decide) ?_
      refine v_sub (ls2 := [(0, bR _), (1, bR _), (2, bI _)]) [1, 2, 0] rfl ?_
      exact h
    · replace h := b_wp_t c5 h
      refine v_iconst ⟨by decide, by decide⟩ dX7_readMark_43 ?_
      refine v_zreturn rfl (Or.inl rfl) dX7_readMark_44 ⟨by decide, by decide⟩ ?_
      exact ⟨_, rfl, h⟩
theorem l_X7_readMark_1_21 {l : Launch} {E : bE} {Q : (Int × bM) → Prop} {M : bM} {s : Int} (h : b_wp (b_loop (fun t => F_X7_readMark_1_s21 t M) s) (X_X7_readMark_1_21 l E Q M)) : A_X7_readMark_1_21 l E Q M s := b_loop_wp (fun t h => t_X7_readMark_1_s21 h) s h
noncomputable def F_X7_readMark_1_b118 (M : bM) : Option (Int × bM) :=
  b_g (b_i32 ((M 5 16) + 1)) (b_let (b_up M 5 16 ((M 5 16) + 1)) (fun M15 => b_bind (F_X10_isSign 59 M15) (fun x16 => b_bind (F_X10_step M15) (fun M17 => b_g (x16 = 0 ∨ x16 = 1) (some (x16, M17))))))
theorem t_X7_readMark_1_b118 {l : Launch} {E : bE} {Q : (Int × bM) → Prop} {M : bM} (h : b_wp (F_X7_readMark_1_b118 M) (Q)) : V l E xX7_readMark (0, 0) 118 [(0, bR 5), (1, bR 1)] [] M (b_pI Q) := by
  unfold F_X7_readMark_1_b118 at h
  obtain ⟨g14, h⟩ := b_wp_g h
  refine v_aload_n (f := 0) 0 rfl dX7_readMark_118 ?_
  refine v_dup rfl dX7_readMark_119 ?_
  refine v_getI (kf := 16) (kz := 16) rfl kd_5 rfl ⟨by decide, by decide⟩ rfl wf_7_75 dX7_readMark_120 ?_
  refine v_iconst ⟨by decide, by decide⟩ dX7_readMark_123 ?_
  refine v_iaddN g14 dX7_readMark_124 ?_
  refine v_putI (kf := 16) (kz := 16) rfl kd_5 rfl ⟨by decide, by decide⟩ rfl wf_7_75 rfl rfl dX7_readMark_125 ?_
  replace h := b_wp_l h
  refine v_aload_n (f := 1) 1 rfl dX7_readMark_128 ?_
  refine v_bipush ⟨by decide, by decide⟩ (by decide) dX7_readMark_129 ?_
  refine v_cVIp (nA := 1) (As := [bI _]) (ix := 91) (cf_X10_isSign (b_wp_b h)) rfl kd_1 rfl rfl wc_X10_isSign wm_7_91 wi_X10_isSign ws_X10_isSign wn_10 ⟨by decide, by decide, by decide⟩ rfl ⟨by decide, by decide⟩ ⟨by decide, by decide⟩ (Nat.le_of_ble_eq_true rfl) dX7_readMark_131 (fun x16 h => ?_)
  refine v_istore_n (g := 2) (i := 2) (ls' := [(2, bI _), (0, bR _), (1, bR _)]) rfl (by decide) dX7_readMark_134 rfl ?_
  refine v_aload_n (f := 1) 2 rfl dX7_readMark_135 ?_
  refine v_cVV (nA := 0) (As := []) (ix := 88) (cf_X10_step (b_wp_b h)) rfl kd_1 rfl rfl wc_X10_step wm_7_88 wi_X10_step ws_X10_step wn_10 ⟨by decide, by decide, by decide⟩ rfl ⟨by decide, by decide⟩ ⟨by decide, by decide⟩ (Nat.le_of_ble_eq_true rfl) dX7_readMark_136 (fun M17 h => ?_)
  obtain ⟨g18, h⟩ := b_wp_g h
  refine v_iload_n (f := 2) 0 rfl dX7_readMark_139 ?_
  refine v_zreturn rfl g18 dX7_readMark_140 ⟨by decide, by decide⟩ ?_
  exact ⟨_, rfl, h⟩
noncomputable def F_X7_readMark_1_b51 (M : bM) : Option (Int × bM) :=
  b_g (0 ≤ (M 5 16) ∧ (M 5 16) < 12) (b_let (b_up M 122 (M 5 16) (M 1 4)) (fun M8 => b_g (0 ≤ (M8 5 16) ∧ (M8 5 16) < 12) (b_let (b_up M8 123 (M8 5 16) 1) (fun M10 => b_bind (F_X10_step M10) (fun M11 => b_bind (F_X10_isSign 61 M11) (fun x12 => if x12 = 0 then (F_X7_readMark_1_b118 M11) else (b_bind (F_X10_step M11) (fun M19 => if (M19 1 2) = 2 then (b_bind (F_X10_number M19) (fun x21 => b_g (0 ≤ (M19 5 16) ∧ (M19 5 16) < 12) (b_let (b_up M19 123 (M19 5 16) x21) (fun M23 => b_bind (F_X10_step M23) (fun M24 => F_X7_readMark_1_b118 M24))))) else (some (0, M19))))))))))
theorem t_X7_readMark_1_b51 {l : Launch} {E : bE} {Q : (Int × bM) → Prop} {M : bM} (h : b_wp (F_X7_readMark_1_b51 M) (Q)) : V l E xX7_readMark (0, 0) 51 [(0, bR 5), (1, bR 1)] [] M (b_pI Q) := by
  unfold F_X7_readMark_1_b51 at h
  obtain ⟨g7, h⟩ := b_wp_g h
  refine v_aload_n (f := 0) 0 rfl dX7_readMark_51 ?_
  refine v_getR (kf := 14) (kz := 14) rfl kd_5 rfl ⟨by decide, by decide⟩ rfl wf_7_55 dX7_readMark_52 ?_
  refine v_aload_n (f := 0) 0 rfl dX7_readMark_55 ?_
  refine v_getI (kf := 16) (kz := 16) rfl kd_5 rfl ⟨by decide, by decide⟩ rfl wf_7_75 dX7_readMark_56 ?_
  refine v_aload_n (f := 1) 1 rfl dX7_readMark_59 ?_
  refine v_getJ (kf := 4) (kz := 4) rfl kd_1 rfl ⟨by decide, by decide⟩ rfl wf_7_84 dX7_readMark_60 ?_
  refine v_lastore kd_122 g7 (by decide) dX7_readMark_63 ?_
  replace h := b_wp_l h
  obtain ⟨g9, h⟩ := b_wp_g h
  refine v_aload_n (f := 0) 0 rfl dX7_readMark_64 ?_
  refine v_getR (kf := 15) (kz := 15) rfl kd_5 rfl ⟨by decide, by decide⟩ rfl wf_7_58 dX7_readMark_65 ?_
  refine v_aload_n (f := 0) 0 rfl dX7_readMark_68 ?_
  refine v_getI (kf := 16) (kz := 16) rfl kd_5 rfl ⟨by decide, by decide⟩ rfl wf_7_75 dX7_readMark_69 ?_
  refine v_iconst ⟨by decide, by decide⟩ dX7_readMark_72 ?_
  refine v_iastore kd_123 g9 (by decide) dX7_readMark_73 ?_
  replace h := b_wp_l h
  refine v_aload_n (f := 1) 1 rfl dX7_readMark_74 ?_
  refine v_cVV (nA := 0) (As := []) (ix := 88) (cf_X10_step (b_wp_b h)) rfl kd_1 rfl rfl wc_X10_step wm_7_88 wi_X10_step ws_X10_step wn_10 ⟨by decide, by decide, by decide⟩ rfl ⟨by decide, by decide⟩ ⟨by decide, by decide⟩ (Nat.le_of_ble_eq_true rfl) dX7_readMark_75 (fun M11 h => ?_)
  refine v_aload_n (f := 1) 1 rfl dX7_readMark_78 ?_
  refine v_bipush ⟨by decide, by decide⟩ (by decide) dX7_readMark_79 ?_
  refine v_cVIp (nA := 1) (As := [bI _]) (ix := 91) (cf_X10_isSign (b_wp_b h)) rfl kd_1 rfl rfl wc_X10_isSign wm_7_91 wi_X10_isSign ws_X10_isSign wn_10 ⟨by decide, by decide, by decide⟩ rfl ⟨by decide, by decide⟩ ⟨by decide, by decide⟩ (Nat.le_of_ble_eq_true rfl) dX7_readMark_81 (fun x12 h => ?_)
  refine v_if_eq (tgt := 118) dX7_readMark_84 (by decide) (fun c13 => ?_) (fun c13 => ?_)
  · replace h := b_wp_t c13 h
    exact t_X7_readMark_1_b118 h
  · replace h := b_wp_f c13 h
    refine v_aload_n (f := 1) 1 rfl dX7_readMark_87 ?_
    refine v_cVV (nA := 0) (As := []) (ix := 88) (cf_X10_step (b_wp_b h)) rfl kd_1 rfl rfl wc_X10_step wm_7_88 wi_X10_step ws_X10_step wn_10 ⟨by decide, by decide, by decide⟩ rfl ⟨by decide, by decide⟩ ⟨by decide, by decide⟩ (Nat.le_of_ble_eq_true rfl) dX7_readMark_88 (fun M19 h => ?_)
    refine v_aload_n (f := 1) 1 rfl dX7_readMark_91 ?_
    refine v_getI (kf := 2) (kz := 2) rfl kd_1 rfl ⟨by decide, by decide⟩ rfl wf_7_78 dX7_readMark_92 ?_
    refine v_iconst ⟨by decide, by decide⟩ dX7_readMark_95 ?_
    refine v_icmp_eq (tgt := 101) dX7_readMark_96 (by decide) (fun c20 => ?_) (fun c20 => ?_)
    · replace h := b_wp_t c20 h
      refine v_aload_n (f := 0) 0 rfl dX7_readMark_101 ?_
      refine v_getR (kf := 15) (kz := 15) rfl kd_5 rfl ⟨by decide, by decide⟩ rfl wf_7_58 dX7_readMark_102 ?_
      refine v_aload_n (f := 0) 0 rfl dX7_readMark_105 ?_
      refine v_getI (kf := 16) (kz := 16) rfl kd_5 rfl ⟨by decide, by decide⟩ rfl wf_7_75 dX7_readMark_106 ?_
      refine v_aload_n (f := 1) 1 rfl dX7_readMark_109 ?_
      refine v_cVIp (nA := 0) (As := []) (ix := 95) (cf_X10_number (b_wp_b h)) rfl kd_1 rfl rfl wc_X10_number wm_7_95 wi_X10_number ws_X10_number wn_10 ⟨by decide, by decide, by decide⟩ rfl ⟨by decide, by decide⟩ ⟨by decide, by decide⟩ (Nat.le_of_ble_eq_true rfl) dX7_readMark_110 (fun x21 h => ?_)
      obtain ⟨g22, h⟩ := b_wp_g h
      refine v_iastore kd_123 g22 (by decide) dX7_readMark_113 ?_
      replace h := b_wp_l h
      refine v_aload_n (f := 1) 1 rfl dX7_readMark_114 ?_
      refine v_cVV (nA := 0) (As := []) (ix := 88) (cf_X10_step (b_wp_b h)) rfl kd_1 rfl rfl wc_X10_step wm_7_88 wi_X10_step ws_X10_step wn_10 ⟨by decide, by decide, by decide⟩ rfl ⟨by decide, by decide⟩ ⟨by decide, by decide⟩ (Nat.le_of_ble_eq_true rfl) dX7_readMark_115 (fun M24 h => ?_)
      exact t_X7_readMark_1_b118 h
    · replace h := b_wp_f c20 h
      refine v_iconst ⟨by decide, by decide⟩ dX7_readMark_99 ?_
      refine v_zreturn rfl (Or.inl rfl) dX7_readMark_100 ⟨by decide, by decide⟩ ?_
      exact ⟨_, rfl, h⟩
noncomputable def F_X7_readMark_1 (M : bM) : Option (Int × bM) :=
  if (M 1 2) = 1 then (if (M 5 16) < 12 then (b_bind (b_loop (fun t => F_X7_readMark_1_s21 t M) (0)) (Sum.elim (fun t => F_X7_readMark_1_b51 M) some)) else (some (0, M))) else (some (0, M))
theorem t_X7_readMark_1 {l : Launch} {E : bE} {Q : (Int × bM) → Prop} {M : bM} (h : b_wp (F_X7_readMark_1 M) (Q)) : V l E xX7_readMark (0, 0) 0 [(0, bR 5), (1, bR 1)] [] M (b_pI Q) := by
  unfold F_X7_readMark_1 at h
  refine v_aload_n (f := 1) 1 rfl dX7_readMark_0 ?_
  refine v_getI (kf := 2) (kz := 2) rfl kd_1 rfl ⟨by decide, by decide⟩ rfl wf_7_78 dX7_readMark_1 ?_
  refine v_iconst ⟨by decide, by decide⟩ dX7_readMark_4 ?_
  refine v_icmp_ne (tgt := 17) dX7_readMark_5 (by decide) (fun c1 => ?_) (fun c1 => ?_)
  · replace h := b_wp_f c1 h
    refine v_iconst ⟨by decide, by decide⟩ dX7_readMark_17 ?_
    refine v_zreturn rfl (Or.inl rfl) dX7_readMark_18 ⟨by decide, by decide⟩ ?_
    exact ⟨_, rfl, h⟩
  · replace h := b_wp_t c1 h
    refine v_aload_n (f := 0) 0 rfl dX7_readMark_8 ?_
    refine v_getI (kf := 16) (kz := 16) rfl kd_5 rfl ⟨by decide, by decide⟩ rfl wf_7_75 dX7_readMark_9 ?_
    refine v_bipush ⟨by decide, by decide⟩ (by decide) dX7_readMark_12 ?_
    refine v_icmp_lt (tgt := 19) dX7_readMark_14 (by decide) (fun c2 => ?_) (fun c2 => ?_)
    · replace h := b_wp_t c2 h
      refine v_iconst ⟨by decide, by decide⟩ dX7_readMark_19 ?_
      refine v_istore_n (g := 2) (i := 2) (ls' := [(2, bI _), (0, bR _), (1, bR _)]) rfl (by decide) dX7_readMark_20 rfl ?_
      refine v_sub (ls2 := [(0, bR _), (1, bR _), (2, bI _)]) [1, 2, 0] rfl ?_
      refine l_X7_readMark_1_21 (b_wp_m (fun t h => ?_) (b_wp_b h))
      cases t with
      | inr o => exact h
      | inl t =>
        show V l E xX7_readMark (0, 0) 51 [(0, bR 5), (1, bR 1)] [] _ (b_pI Q)
        replace h := b_wp_inl h
        exact t_X7_readMark_1_b51 h
    · replace h := b_wp_f c2 h
      refine v_iconst ⟨by decide, by decide⟩ dX7_readMark_17 ?_
      refine v_zreturn rfl (Or.inl rfl) dX7_readMark_18 ⟨by decide, by decide⟩ ?_
      exact ⟨_, rfl, h⟩
theorem cf_X7_readMark_1 {l : Launch} {E : bE} {M : bM} {Q : (Int × bM) → Prop} (h : b_wp (F_X7_readMark_1 M) Q) : b_C l E xX7_readMark yX7_readMark [bR 5, bR 1] M (b_pI Q) := b_met (by decide) ⟨rfl, rfl⟩ (Nat.le_of_ble_eq_true rfl) (fun _ _ => t_X7_readMark_1 h)
abbrev xX7_readMarks : bX := ("BurntHall$Papers", prog_9_method_3_code, 3, (Option.some Jvm.ClassFile.FieldType.int), b_rm 4 0 0, 0, "readMarks")
abbrev yX7_readMarks : MethodName := ⟨"BurntHall$Papers", "readMarks", "(LBurntHall$Tape;)I"⟩
theorem dX7_readMarks_0 : decode prog_9_method_3_code 0 = .ok (.aload_n 1, 1) := by decide +kernel
theorem dX7_readMarks_1 : decode prog_9_method_3_code 1 = .ok (.invokevirtual 70, 3) := by decide +kernel
theorem dX7_readMarks_4 : decode prog_9_method_3_code 4 = .ok (.aload_n 0, 1) := by decide +kernel
theorem dX7_readMarks_5 : decode prog_9_method_3_code 5 = .ok (.iconst 0, 1) := by decide +kernel
theorem dX7_readMarks_6 : decode prog_9_method_3_code 6 = .ok (.putfield 75, 3) := by decide +kernel
theorem dX7_readMarks_9 : decode prog_9_method_3_code 9 = .ok (.iconst 0, 1) := by decide +kernel
theorem dX7_readMarks_10 : decode prog_9_method_3_code 10 = .ok (.istore_n 2, 1) := by decide +kernel
theorem dX7_readMarks_11 : decode prog_9_method_3_code 11 = .ok (.iload_n 2, 1) := by decide +kernel
theorem dX7_readMarks_12 : decode prog_9_method_3_code 12 = .ok (.sipush 1000, 3) := by decide +kernel
theorem dX7_readMarks_15 : decode prog_9_method_3_code 15 = .ok (.if_icmp .ge 26, 3) := by decide +kernel
theorem dX7_readMarks_18 : decode prog_9_method_3_code 18 = .ok (.aload_n 1, 1) := by decide +kernel
theorem dX7_readMarks_19 : decode prog_9_method_3_code 19 = .ok (.getfield 78, 3) := by decide +kernel
theorem dX7_readMarks_22 : decode prog_9_method_3_code 22 = .ok (.ifCond .eq 19, 3) := by decide +kernel
theorem dX7_readMarks_25 : decode prog_9_method_3_code 25 = .ok (.aload_n 0, 1) := by decide +kernel
theorem dX7_readMarks_26 : decode prog_9_method_3_code 26 = .ok (.aload_n 1, 1) := by decide +kernel
theorem dX7_readMarks_27 : decode prog_9_method_3_code 27 = .ok (.invokevirtual 80, 3) := by decide +kernel
theorem dX7_readMarks_30 : decode prog_9_method_3_code 30 = .ok (.ifCond .ne 5, 3) := by decide +kernel
theorem dX7_readMarks_33 : decode prog_9_method_3_code 33 = .ok (.iconst (-1), 1) := by decide +kernel
theorem dX7_readMarks_34 : decode prog_9_method_3_code 34 = .ok (.ireturn, 1) := by decide +kernel
theorem dX7_readMarks_35 : decode prog_9_method_3_code 35 = .ok (.iinc 2 1, 3) := by decide +kernel
theorem dX7_readMarks_38 : decode prog_9_method_3_code 38 = .ok (.goto (-27), 3) := by decide +kernel
theorem dX7_readMarks_41 : decode prog_9_method_3_code 41 = .ok (.aload_n 0, 1) := by decide +kernel
theorem dX7_readMarks_42 : decode prog_9_method_3_code 42 = .ok (.getfield 67, 3) := by decide +kernel
theorem dX7_readMarks_45 : decode prog_9_method_3_code 45 = .ok (.bipush 120, 2) := by decide +kernel
theorem dX7_readMarks_47 : decode prog_9_method_3_code 47 = .ok (.if_icmp .lt 8, 3) := by decide +kernel
theorem dX7_readMarks_50 : decode prog_9_method_3_code 50 = .ok (.bipush (-3), 2) := by decide +kernel
theorem dX7_readMarks_52 : decode prog_9_method_3_code 52 = .ok (.goto 4, 3) := by decide +kernel
theorem dX7_readMarks_55 : decode prog_9_method_3_code 55 = .ok (.iconst 0, 1) := by decide +kernel
theorem dX7_readMarks_56 : decode prog_9_method_3_code 56 = .ok (.ireturn, 1) := by decide +kernel
abbrev A_X7_readMarks_1_11 (l : Launch) (E : bE) (Q : (Int × bM) → Prop) : (Int × bM) → Prop := (fun t : Int × bM => V l E xX7_readMarks (0, 0) 11 [(0, bR 5), (1, bR 1), (2, bI (t.1))] [] t.2 (b_pI Q))
abbrev X_X7_readMarks_1_11 (l : Launch) (E : bE) (Q : (Int × bM) → Prop) : ((bM) ⊕ (Int × bM)) → Prop := (Sum.elim (fun t : bM => V l E xX7_readMarks (0, 0) 41 [(0, bR 5)] [] t (b_pI Q)) Q)
noncomputable def F_X7_readMarks_1_s11 (v2 : Int) (M : bM) : Option ((Int × bM) ⊕ ((bM) ⊕ (Int × bM))) :=
  if 1000 ≤ v2 then (some (.inr (.inl (M)))) else (if (M 1 2) = 0 then (some (.inr (.inl (M)))) else (b_bind (F_X7_readMark_1 M) (fun t => b_two t (fun x5 M6 => if x5 = 0 then (some (.inr (.inr ((-1), M6)))) else (b_g (b_i32 (v2 + 1)) (some (.inl ((v2 + 1), M6))))))))
theorem t_X7_readMarks_1_s11 {l : Launch} {E : bE} {Q : (Int × bM) → Prop} {v2 : Int} {M : bM} (h : b_wp (F_X7_readMarks_1_s11 v2 M) (Sum.elim (A_X7_readMarks_1_11 l E Q ) (X_X7_readMarks_1_11 l E Q ))) : V l E xX7_readMarks (0, 0) 11 [(0, bR 5), (1, bR 1), (2, bI v2)] [] M (b_pI Q) := by
  unfold F_X7_readMarks_1_s11 at h
  refine v_iload_n (f := 2) 2 rfl dX7_readMarks_11 ?_
  refine v_sipush ⟨by decide, by decide⟩ (by decide) dX7_readMarks_12 ?_
  refine v_icmp_ge (tgt := 41) dX7_readMarks_15 (by decide) (fun c3 => ?_) (fun c3 => ?_)
  · replace h := b_wp_t c3 h
    refine v_sub (ls2 := [(0, bR _)]) [0] rfl ?_
    exact h
  · replace h := b_wp_f c3 h
    refine v_aload_n (f := 1) 1 rfl dX7_readMarks_18 ?_
    refine v_getI (kf := 2) (kz := 2) rfl kd_1 rfl ⟨by decide, by decide⟩ rfl wf_7_78 dX7_readMarks_19 ?_
    refine v_if_eq (tgt := 41) dX7_readMarks_22 (by decide) (fun c4 => ?_) (fun c4 => ?_)
    · replace h := b_wp_t c4 h
      refine v_sub (ls2 := [(0, bR _)]) [0] rfl ?_
      exact h
    · replace h := b_wp_f c4 h
      refine v_aload_n (f := 0) 0 rfl dX7_readMarks_25 ?_
      refine v_aload_n (f := 1) 1 rfl dX7_readMarks_26 ?_
      refine v_cVI (nA := 1) (As := [bR _]) (ix := 80) (cf_X7_readMark_1 (b_wp_b h)) rfl kd_5 rfl rfl wc_X7_readMark wm_7_80 wi_X7_readMark ws_X7_readMark wn_7 ⟨by decide, by decide, by decide⟩ rfl ⟨by decide, by decide⟩ ⟨by decide, by decide⟩ (Nat.le_of_ble_eq_true rfl) dX7_readMarks_27 (fun x5 M6 h => ?_)
      replace h := b_wp_two h
      refine v_if_ne (tgt := 35) dX7_readMarks_30 (by decide) (fun c7 => ?_) (fun c7 => ?_)
      · replace h := b_wp_f c7 h
        obtain ⟨g8, h⟩ := b_wp_g h
        refine v_iincN (ls' := [(2, bI _), (0, bR _), (1, bR _)]) 2 rfl (by decide) g8 dX7_readMarks_35 rfl ?_
        refine v_goto (tgt := 11) dX7_readMarks_38 (by decide) ?_
        refine v_sub (ls2 := [(0, bR _), (1, bR _), (2, bI _)]) [1, 2, 0] rfl ?_
        exact h
      · replace h := b_wp_t c7 h
        refine v_iconst ⟨by decide, by decide⟩ dX7_readMarks_33 ?_
        refine v_ireturn rfl dX7_readMarks_34 ⟨by decide, by decide⟩ ?_
        exact ⟨_, rfl, h⟩
theorem l_X7_readMarks_1_11 {l : Launch} {E : bE} {Q : (Int × bM) → Prop} {s : Int × bM} (h : b_wp (b_loop (fun t => F_X7_readMarks_1_s11 t.1 t.2) s) (X_X7_readMarks_1_11 l E Q )) : A_X7_readMarks_1_11 l E Q  s := b_loop_wp (fun t h => t_X7_readMarks_1_s11 h) s h
noncomputable def F_X7_readMarks_1_b41 (M : bM) : Option (Int × bM) :=
  if (M 5 0) < 120 then (some (0, M)) else (some ((-3), M))
theorem t_X7_readMarks_1_b41 {l : Launch} {E : bE} {Q : (Int × bM) → Prop} {M : bM} (h : b_wp (F_X7_readMarks_1_b41 M) (Q)) : V l E xX7_readMarks (0, 0) 41 [(0, bR 5)] [] M (b_pI Q) := by
  unfold F_X7_readMarks_1_b41 at h
  refine v_aload_n (f := 0) 0 rfl dX7_readMarks_41 ?_
  refine v_getI (kf := 0) (kz := 0) rfl kd_5 rfl ⟨by decide, by decide⟩ rfl wf_7_67 dX7_readMarks_42 ?_
  refine v_bipush ⟨by decide, by decide⟩ (by decide) dX7_readMarks_45 ?_
  refine v_icmp_lt (tgt := 55) dX7_readMarks_47 (by decide) (fun c9 => ?_) (fun c9 => ?_)
  · replace h := b_wp_t c9 h
    refine v_iconst ⟨by decide, by decide⟩ dX7_readMarks_55 ?_
    refine v_ireturn rfl dX7_readMarks_56 ⟨by decide, by decide⟩ ?_
    exact ⟨_, rfl, h⟩
  · replace h := b_wp_f c9 h
    refine v_bipush ⟨by decide, by decide⟩ (by decide) dX7_readMarks_50 ?_
    refine v_goto (tgt := 56) dX7_readMarks_52 (by decide) ?_
    refine v_ireturn rfl dX7_readMarks_56 ⟨by decide, by decide⟩ ?_
    exact ⟨_, rfl, h⟩
noncomputable def F_X7_readMarks_1 (M : bM) : Option (Int × bM) :=
  b_bind (F_X10_rewind M) (fun M1 => b_let (b_up M1 5 16 0) (fun M2 => b_bind (b_loop (fun t => F_X7_readMarks_1_s11 t.1 t.2) (0, M2)) (Sum.elim (fun t => F_X7_readMarks_1_b41 t) some)))
theorem t_X7_readMarks_1 {l : Launch} {E : bE} {Q : (Int × bM) → Prop} {M : bM} (h : b_wp (F_X7_readMarks_1 M) (Q)) : V l E xX7_readMarks (0, 0) 0 [(0, bR 5), (1, bR 1)] [] M (b_pI Q) := by
  unfold F_X7_readMarks_1 at h
  refine v_aload_n (f := 1) 1 rfl dX7_readMarks_0 ?_
  refine v_cVV (nA := 0) (As := []) (ix := 70) (cf_X10_rewind (b_wp_b h)) rfl kd_1 rfl rfl wc_X10_rewind wm_7_70 wi_X10_rewind ws_X10_rewind wn_10 ⟨by decide, by decide, by decide⟩ rfl ⟨by decide, by decide⟩ ⟨by decide, by decide⟩ (Nat.le_of_ble_eq_true rfl) dX7_readMarks_1 (fun M1 h => ?_)
  refine v_aload_n (f := 0) 0 rfl dX7_readMarks_4 ?_
  refine v_iconst ⟨by decide, by decide⟩ dX7_readMarks_5 ?_
  refine v_putI (kf := 16) (kz := 16) rfl kd_5 rfl ⟨by decide, by decide⟩ rfl wf_7_75 rfl rfl dX7_readMarks_6 ?_
  replace h := b_wp_l h
  refine v_iconst ⟨by decide, by decide⟩ dX7_readMarks_9 ?_
  refine v_istore_n (g := 2) (i := 2) (ls' := [(2, bI _), (0, bR _), (1, bR _)]) rfl (by decide) dX7_readMarks_10 rfl ?_
  refine v_sub (ls2 := [(0, bR _), (1, bR _), (2, bI _)]) [1, 2, 0] rfl ?_
  refine l_X7_readMarks_1_11 (b_wp_m (fun t h => ?_) (b_wp_b h))
  cases t with
  | inr o => exact h
  | inl t =>
    show V l E xX7_readMarks (0, 0) 41 [(0, bR 5)] [] _ (b_pI Q)
    replace h := b_wp_inl h
    exact t_X7_readMarks_1_b41 h
theorem cf_X7_readMarks_1 {l : Launch} {E : bE} {M : bM} {Q : (Int × bM) → Prop} (h : b_wp (F_X7_readMarks_1 M) Q) : b_C l E xX7_readMarks yX7_readMarks [bR 5, bR 1] M (b_pI Q) := b_met (by decide) ⟨rfl, rfl⟩ (Nat.le_of_ble_eq_true rfl) (fun _ _ => t_X7_readMarks_1 h)
abbrev xX11_paper : bX := ("BurntHall", prog_1_method_29_code, 10, (Option.some Jvm.ClassFile.FieldType.int), b_rm 7 0 0, 0, "paper")
abbrev yX11_paper : MethodName := ⟨"BurntHall", "paper", "(IIIIIII)I"⟩
theorem dX11_paper_0 : decode prog_1_method_29_code 0 = .ok (.bipush (-2), 2) := by decide +kernel
theorem dX11_paper_2 : decode prog_1_method_29_code 2 = .ok (.istore 8, 2) := by decide +kernel
theorem dX11_paper_4 : decode prog_1_method_29_code 4 = .ok (.iload_n 1, 1) := by decide +kernel
theorem dX11_paper_5 : decode prog_1_method_29_code 5 = .ok (.ifCond .lt 103, 3) := by decide +kernel
theorem dX11_paper_8 : decode prog_1_method_29_code 8 = .ok (.iload_n 1, 1) := by decide +kernel
theorem dX11_paper_9 : decode prog_1_method_29_code 9 = .ok (.bipush 7, 2) := by decide +kernel
theorem dX11_paper_11 : decode prog_1_method_29_code 11 = .ok (.if_icmp .ge 97, 3) := by decide +kernel
theorem dX11_paper_14 : decode prog_1_method_29_code 14 = .ok (.iload_n 2, 1) := by decide +kernel
theorem dX11_paper_15 : decode prog_1_method_29_code 15 = .ok (.aload_n 0, 1) := by decide +kernel
theorem dX11_paper_16 : decode prog_1_method_29_code 16 = .ok (.getfield 51, 3) := by decide +kernel
theorem dX11_paper_19 : decode prog_1_method_29_code 19 = .ok (.getfield 243, 3) := by decide +kernel
theorem dX11_paper_22 : decode prog_1_method_29_code 22 = .ok (.invokestatic 246, 3) := by decide +kernel
theorem dX11_paper_25 : decode prog_1_method_29_code 25 = .ok (.ifCond .eq 83, 3) := by decide +kernel
theorem dX11_paper_28 : decode prog_1_method_29_code 28 = .ok (.iload_n 3, 1) := by decide +kernel
theorem dX11_paper_29 : decode prog_1_method_29_code 29 = .ok (.aload_n 0, 1) := by decide +kernel
theorem dX11_paper_30 : decode prog_1_method_29_code 30 = .ok (.getfield 19, 3) := by decide +kernel
theorem dX11_paper_33 : decode prog_1_method_29_code 33 = .ok (.getfield 249, 3) := by decide +kernel
theorem dX11_paper_36 : decode prog_1_method_29_code 36 = .ok (.invokestatic 246, 3) := by decide +kernel
theorem dX11_paper_39 : decode prog_1_method_29_code 39 = .ok (.ifCond .eq 69, 3) := by decide +kernel
theorem dX11_paper_42 : decode prog_1_method_29_code 42 = .ok (.iload 4, 2) := by decide +kernel
theorem dX11_paper_44 : decode prog_1_method_29_code 44 = .ok (.aload_n 0, 1) := by decide +kernel
theorem dX11_paper_45 : decode prog_1_method_29_code 45 = .ok (.getfield 19, 3) := by decide +kernel
theorem dX11_paper_48 : decode prog_1_method_29_code 48 = .ok (.getfield 249, 3) := by decide +kernel
theorem dX11_paper_51 : decode prog_1_method_29_code 51 = .ok (.invokestatic 246, 3) := by decide +kernel
theorem dX11_paper_54 : decode prog_1_method_29_code 54 = .ok (.ifCond .eq 54, 3) := by decide +kernel
theorem dX11_paper_57 : decode prog_1_method_29_code 57 = .ok (.iload 5, 2) := by decide +kernel
theorem dX11_paper_59 : decode prog_1_method_29_code 59 = .ok (.aload_n 0, 1) := by decide +kernel
theorem dX11_paper_60 : decode prog_1_method_29_code 60 = .ok (.getfield 26, 3) := by decide +kernel
theorem dX11_paper_63 : decode prog_1_method_29_code 63 = .ok (.getfield 250, 3) := by decide +kernel
theorem dX11_paper_66 : decode prog_1_method_29_code 66 = .ok (.invokestatic 246, 3) := by decide +kernel
theorem dX11_paper_69 : decode prog_1_method_29_code 69 = .ok (.ifCond .eq 39, 3) := by decide +kernel
theorem dX11_paper_72 : decode prog_1_method_29_code 72 = .ok (.iload 6, 2) := by decide +kernel
theorem dX11_paper_74 : decode prog_1_method_29_code 74 = .ok (.invokestatic 102, 3) := by decide +kernel
theorem dX11_paper_77 : decode prog_1_method_29_code 77 = .ok (.ifCond .eq 31, 3) := by decide +kernel
theorem dX11_paper_80 : decode prog_1_method_29_code 80 = .ok (.iload 7, 2) := by decide +kernel
theorem dX11_paper_82 : decode prog_1_method_29_code 82 = .ok (.invokestatic 102, 3) := by decide +kernel
theorem dX11_paper_85 : decode prog_1_method_29_code 85 = .ok (.ifCond .eq 23, 3) := by decide +kernel
theorem dX11_paper_88 : decode prog_1_method_29_code 88 = .ok (.iload 6, 2) := by decide +kernel
theorem dX11_paper_90 : decode prog_1_method_29_code 90 = .ok (.iload 7, 2) := by decide +kernel
theorem dX11_paper_92 : decode prog_1_method_29_code 92 = .ok (.if_icmp .gt 16, 3) := by decide +kernel
theorem dX11_paper_95 : decode prog_1_method_29_code 95 = .ok (.aload_n 0, 1) := by decide +kernel
theorem dX11_paper_96 : decode prog_1_method_29_code 96 = .ok (.getfield 42, 3) := by decide +kernel
theorem dX11_paper_99 : decode prog_1_method_29_code 99 = .ok (.aload_n 0, 1) := by decide +kernel
theorem dX11_paper_100 : decode prog_1_method_29_code 100 = .ok (.getfield 10, 3) := by decide +kernel
theorem dX11_paper_103 : decode prog_1_method_29_code 103 = .ok (.invokevirtual 251, 3) := by decide +kernel
theorem dX11_paper_106 : decode prog_1_method_29_code 106 = .ok (.istore 8, 2) := by decide +kernel
theorem dX11_paper_108 : decode prog_1_method_29_code 108 = .ok (.aload_n 0, 1) := by decide +kernel
theorem dX11_paper_109 : decode prog_1_method_29_code 109 = .ok (.getfield 10, 3) := by decide +kernel
theorem dX11_paper_112 : decode prog_1_method_29_code 112 = .ok (.invokevirtual 182, 3) := by decide +kernel
theorem dX11_paper_115 : decode prog_1_method_29_code 115 = .ok (.iload 8, 2) := by decide +kernel
theorem dX11_paper_117 : decode prog_1_method_29_code 117 = .ok (.ifCond .ge 6, 3) := by decide +kernel
theorem dX11_paper_120 : decode prog_1_method_29_code 120 = .ok (.iload 8, 2) := by decide +kernel
theorem dX11_paper_122 : decode prog_1_method_29_code 122 = .ok (.ireturn, 1) := by decide +kernel
theorem dX11_paper_123 : decode prog_1_method_29_code 123 = .ok (.aload_n 0, 1) := by decide +kernel
theorem dX11_paper_124 : decode prog_1_method_29_code 124 = .ok (.getfield 42, 3) := by decide +kernel
theorem dX11_paper_127 : decode prog_1_method_29_code 127 = .ok (.iload_n 1, 1) := by decide +kernel
theorem dX11_paper_128 : decode prog_1_method_29_code 128 = .ok (.iload_n 2, 1) := by decide +kernel
theorem dX11_paper_129 : decode prog_1_method_29_code 129 = .ok (.aload_n 0, 1) := by decide +kernel
theorem dX11_paper_130 : decode prog_1_method_29_code 130 = .ok (.getfield 91, 3) := by decide +kernel
theorem dX11_paper_133 : decode prog_1_method_29_code 133 = .ok (.invokevirtual 255, 3) := by decide +kernel
theorem dX11_paper_136 : decode prog_1_method_29_code 136 = .ok (.istore 9, 2) := by decide +kernel
theorem dX11_paper_138 : decode prog_1_method_29_code 138 = .ok (.aload_n 0, 1) := by decide +kernel
theorem dX11_paper_139 : decode prog_1_method_29_code 139 = .ok (.getfield 42, 3) := by decide +kernel
theorem dX11_paper_142 : decode prog_1_method_29_code 142 = .ok (.iload 9, 2) := by decide +kernel
theorem dX11_paper_144 : decode prog_1_method_29_code 144 = .ok (.iload_n 3, 1) := by decide +kernel
theorem dX11_paper_145 : decode prog_1_method_29_code 145 = .ok (.iload 4, 2) := by decide +kernel
theorem dX11_paper_147 : decode prog_1_method_29_code 147 = .ok (.iload 5, 2) := by decide +kernel
theorem dX11_paper_149 : decode prog_1_method_29_code 149 = .ok (.iload 6, 2) := by decide +kernel
theorem dX11_paper_151 : decode prog_1_method_29_code 151 = .ok (.iload 7, 2) := by decide +kernel
theorem dX11_paper_153 : decode prog_1_method_29_code 153 = .ok (.invokevirtual 257, 3) := by decide +kernel
theorem dX11_paper_156 : decode prog_1_method_29_code 156 = .ok (.aload_n 0, 1) := by decide +kernel
theorem dX11_paper_157 : decode prog_1_method_29_code 157 = .ok (.getfield 42, 3) := by decide +kernel
theorem dX11_paper_160 : decode prog_1_method_29_code 160 = .ok (.iload 9, 2) := by decide +kernel
theorem dX11_paper_162 : decode prog_1_method_29_code 162 = .ok (.aload_n 0, 1) := by decide +kernel
theorem dX11_paper_163 : decode prog_1_method_29_code 163 = .ok (.getfield 35, 3) := by decide +kernel
theorem dX11_paper_166 : decode prog_1_method_29_code 166 = .ok (.invokevirtual 261, 3) := by decide +kernel
theorem dX11_paper_169 : decode prog_1_method_29_code 169 = .ok (.aload_n 0, 1) := by decide +kernel
theorem dX11_paper_170 : decode prog_1_method_29_code 170 = .ok (.getfield 51, 3) := by decide +kernel
theorem dX11_paper_173 : decode prog_1_method_29_code 173 = .ok (.invokevirtual 113, 3) := by decide +kernel
theorem dX11_paper_176 : decode prog_1_method_29_code 176 = .ok (.iload 9, 2) := by decide +kernel
theorem dX11_paper_178 : decode prog_1_method_29_code 178 = .ok (.ireturn, 1) := by decide +kernel
noncomputable def F_X11_paper_b108 (v1 : Int) (v2 : Int) (v3 : Int) (v4 : Int) (v5 : Int) (v6 : Int) (v7 : Int) (v8 : Int) (M : bM) : Option (Int × bM) :=
  b_bind (F_X10_clear M) (fun M2 => if 0 ≤ v8 then (b_bind (F_X7_add v1 v2 (M2 0 10) M2) (fun t => b_two t (fun x4 M5 => b_bind (F_X7_say x4 v3 v4 v5 v6 v7 M5) (fun M6 => b_bind (F_X7_weigh_4 x4 M6) (fun M7 => b_bind (F_X4_forget M7) (fun M8 => some (x4, M8))))))) else (some (v8, M2)))
theorem t_X11_paper_b108 {l : Launch} {E : bE} {Q : (Int × bM) → Prop} {v1 : Int} {v2 : Int} {v3 : Int} {v4 : Int} {v5 : Int} {v6 : Int} {v7 : Int} {v8 : Int} {M : bM} (h : b_wp (F_X11_paper_b108 v1 v2 v3 v4 v5 v6 v7 v8 M) (Q)) : V l E xX11_paper (0, 0) 108 [(0, bR 0), (1, bI v1), (2, bI v2), (3, bI v3), (4, bI v4), (5, bI v5), (6, bI v6), (7, bI v7), (8, bI v8)] [] M (b_pI Q) := by
  unfold F_X11_paper_b108 at h
  refine v_aload_n (f := 0) 0 rfl dX11_paper_108 ?_
  refine v_getR (kf := 0) (kz := 0) rfl kd_0 rfl ⟨by decide, by decide⟩ rfl wf_11_10 dX11_paper_109 ?_
  refine v_cVV (nA := 0) (As := []) (ix := 182) (cf_X10_clear (b_wp_b h)) rfl kd_1 rfl rfl wc_X10_clear wm_11_182 wi_X10_clear ws_X10_clear wn_10 ⟨by decide, by decide, by decide⟩ rfl ⟨by decide, by decide⟩ ⟨by decide, by decide⟩ (Nat.le_of_ble_eq_true rfl) dX11_paper_112 (fun M2 h => ?_)
  refine v_iload (i := 8) 8 rfl dX11_paper_115 ?_
  refine v_if_ge (tgt := 123) dX11_paper_117 (by decide) (fun c3 => ?_) (fun c3 => ?_)
  · replace h := b_wp_t c3 h
    refine v_aload_n (f := 0) 0 rfl dX11_paper_123 ?_
    refine v_getR (kf := 4) (kz := 4) rfl kd_0 rfl ⟨by decide, by decide⟩ rfl wf_11_42 dX11_paper_124 ?_
    refine v_iload_n (f := 1) 1 rfl dX11_paper_127 ?_
    refine v_iload_n (f := 2) 2 rfl dX11_paper_128 ?_
    refine v_aload_n (f := 0) 0 rfl dX11_paper_129 ?_
    refine v_getI (kf := 10) (kz := 10) rfl kd_0 rfl ⟨by decide, by decide⟩ rfl wf_11_91 dX11_paper_130 ?_
    refine v_cVI (nA := 3) (As := [bI _, bI _, bI _]) (ix := 255) (cf_X7_add (b_wp_b h)) rfl kd_5 rfl rfl wc_X7_add wm_11_255 wi_X7_add ws_X7_add wn_7 ⟨by decide, by decide, by decide⟩ rfl ⟨by decide, by decide⟩ ⟨by decide, by decide⟩ (Nat.le_of_ble_eq_true rfl) dX11_paper_133 (fun x4 M5 h => ?_)
    replace h := b_wp_two h
    refine v_istore (i := 9) (ls' := [(9, bI _), (0, bR _), (1, bI _), (2, bI _), (3, bI _), (4, bI _), (5, bI _), (6, bI _), (7, bI _), (8, bI _)]) (by decide) dX11_paper_136 rfl ?_
    refine v_aload_n (f := 0) 1 rfl dX11_paper_138 ?_
    refine v_getR (kf := 4) (kz := 4) rfl kd_0 rfl ⟨by decide, by decide⟩ rfl wf_11_42 dX11_paper_139 ?_
    refine v_iload (i := 9) 0 rfl dX11_paper_142 ?_
    refine v_iload_n (f := 3) 4 rfl dX11_paper_144 ?_
    refine v_iload (i := 4) 5 rfl dX11_paper_145 ?_
    refine v_iload (i := 5) 6 rfl dX11_paper_147 ?_
    refine v_iload (i := 6) 7 rfl dX11_paper_149 ?_
    refine v_iload (i := 7) 8 rfl dX11_paper_151 ?_
    refine v_cVV (nA := 6) (As := [bI _, bI _, bI _, bI _, bI _, bI _]) (ix := 257) (cf_X7_say (b_wp_b h)) rfl kd_5 rfl rfl wc_X7_say wm_11_257 wi_X7_say ws_X7_say wn_7 ⟨by decide, by decide, by decide⟩ rfl ⟨by decide, by decide⟩ ⟨by decide, by decide⟩ (Nat.le_of_ble_eq_true rfl) dX11_paper_153 (fun M6 h => ?_)
    refine v_aload_n (f := 0) 1 rfl dX11_paper_156 ?_
    refine v_getR (kf := 4) (kz := 4) rfl kd_0 rfl ⟨by decide, by decide⟩ rfl wf_11_42 dX11_paper_157 ?_
    refine v_iload (i := 9) 0 rfl dX11_paper_160 ?_
    refine v_aload_n (f := 0) 1 rfl dX11_paper_162 ?_
    refine v_getR (kf := 3) (kz := 3) rfl kd_0 rfl ⟨by decide, by decide⟩ rfl wf_11_35 dX11_paper_163 ?_
    refine v_cVV (nA := 2) (As := [bI _, bR _]) (ix := 261) (cf_X7_weigh_4 (b_wp_b h)) rfl kd_5 rfl rfl wc_X7_weigh wm_11_261 wi_X7_weigh ws_X7_weigh wn_7 ⟨by decide, by decide, by decide⟩ rfl ⟨by decide, by decide⟩ ⟨by decide, by decide⟩ (Nat.le_of_ble_eq_true rfl) dX11_paper_166 (fun M7 h => ?_)
    refine v_aload_n (f := 0) 1 rfl dX11_paper_169 ?_
    refine v_getR (kf := 5) (kz := 5) rfl kd_0 rfl ⟨by decide, by decide⟩ rfl wf_11_51 dX11_paper_170 ?_
    refine v_cVV (nA := 0) (As := []) (ix := 113) (cf_X4_forget (b_wp_b h)) rfl kd_6 rfl rfl wc_X4_forget wm_11_113 wi_X4_forget ws_X4_forget wn_4 ⟨by decide, by decide, by decide⟩ rfl ⟨by decide, by decide⟩ ⟨by decide, by decide⟩ (Nat.le_of_ble_eq_true rfl) dX11_paper_173 (fun M8 h => ?_)
    refine v_iload (i := 9) 0 rfl dX11_paper_176 ?_
    refine v_ireturn rfl dX11_paper_178 ⟨by decide, by decide⟩ ?_
    exact ⟨_, rfl, h⟩
  · replace h := b_wp_f c3 h
    refine v_iload (i := 8) 8 rfl dX11_paper_120 ?_
    refine v_ireturn rfl dX11_paper_122 ⟨by decide, by decide⟩ ?_
    exact ⟨_, rfl, h⟩
noncomputable def F_X11_paper (v1 : Int) (v2 : Int) (v3 : Int) (v4 : Int) (v5 : Int) (v6 : Int) (v7 : Int) (M : bM) : Option (Int × bM) :=
  if v1 < 0 then (F_X11_paper_b108 v1 v2 v3 v4 v5 v6 v7 (-2) M) else (if 7 ≤ v1 then (F_X11_paper_b108 v1 v2 v3 v4 v5 v6 v7 (-2) M) else (b_bind (F_X11_isNoneOr v2 (M 6 0) M) (fun x10 => if x10 = 0 then (F_X11_paper_b108 v1 v2 v3 v4 v5 v6 v7 (-2) M) else (b_bind (F_X11_isNoneOr v3 (M 2 0) M) (fun x12 => if x12 = 0 then (F_X11_paper_b108 v1 v2 v3 v4 v5 v6 v7 (-2) M) else (b_bind (F_X11_isNoneOr v4 (M 2 0) M) (fun x14 => if x14 = 0 then (F_X11_paper_b108 v1 v2 v3 v4 v5 v6 v7 (-2) M) else (b_bind (F_X11_isNoneOr v5 (M 3 0) M) (fun x16 => if x16 = 0 then (F_X11_paper_b108 v1 v2 v3 v4 v5 v6 v7 (-2) M) else (b_bind (F_X11_isDay v6 M) (fun x18 => if x18 = 0 then (F_X11_paper_b108 v1 v2 v3 v4 v5 v6 v7 (-2) M) else (b_bind (F_X11_isDay v7 M) (fun x20 => if x20 = 0 then (F_X11_paper_b108 v1 v2 v3 v4 v5 v6 v7 (-2) M) else (if v7 < v6 then (F_X11_paper_b108 v1 v2 v3 v4 v5 v6 v7 (-2) M) else (b_bind (F_X7_readMarks_1 M) (fun t => b_two t (fun x23 M24 => F_X11_paper_b108 v1 v2 v3 v4 v5 v6 v7 x23 M24)))))))))))))))))
theorem t_X11_paper {l : Launch} {E : bE} {Q : (Int × bM) → Prop} {v1 : Int} {v2 : Int} {v3 : Int} {v4 : Int} {v5 : Int} {v6 : Int} {v7 : Int} {M : bM} (h : b_wp (F_X11_paper v1 v2 v3 v4 v5 v6 v7 M) (Q)) : V l E xX11_paper (0, 0) 0 [(0, bR 0), (1, bI v1), (2, bI v2), (3, bI v3), (4, bI v4), (5, bI v5), (6, bI v6), (7, bI v7)] [] M (b_pI Q) := by
  unfold F_X11_paper at h
  refine v_bipush ⟨by decide, by decide⟩ (by decide) dX11_paper_0 ?_
  refine v_istore (i := 8) (ls' := [(8, bI _), (0, bR _), (1, bI _), (2, bI _), (3, bI _), (4, bI _), (5, bI _), (6, bI _), (7, bI _)]) (by decide) dX11_paper_2 rfl ?_
  refine v_iload_n (f := 1) 2 rfl dX11_paper_4 ?_
  refine v_if_lt (tgt := 108) dX11_paper_5 (by decide) (fun c1 => ?_) (fun c1 => ?_)
  · replace h := b_wp_t c1 h
    refine v_sub (ls2 := [(0, bR _), (1, bI _), (2, bI _), (3, bI _), (4, bI _), (5, bI _), (6, bI _), (7, bI _), (8, bI _)]) [1, 2, 3, 4, 5, 6, 7, 8, 0] rfl ?_
    exact t_X11_paper_b108 h
  · replace h := b_wp_f c1 h
    refine v_iload_n (f := 1) 2 rfl dX11_paper_8 ?_
    refine v_bipush ⟨by decide, by decide⟩ (by decide) dX11_paper_9 ?_
    refine v_icmp_ge (tgt := 108) dX11_paper_11 (by decide) (fun c9 => ?_) (fun c9 => ?_)
    · replace h := b_wp_t c9 h
      refine v_sub (ls2 := [(0, bR _), (1, bI _), (2, bI _), (3, bI _), (4, bI _), (5, bI _), (6, bI _), (7, bI _), (8, bI _)]) [1, 2, 3, 4, 5, 6, 7, 8, 0] rfl ?_
      exact t_X11_paper_b108 h
    · replace h := b_wp_f c9 h
      refine v_iload_n (f := 2) 3 rfl dX11_paper_14 ?_
      refine v_aload_n (f := 0) 1 rfl dX11_paper_15 ?_
      refine v_getR (kf := 5) (kz := 5) rfl kd_0 rfl ⟨by decide, by decide⟩ rfl wf_11_51 dX11_paper_16 ?_
      refine v_getI (kf := 0) (kz := 0) rfl kd_6 rfl ⟨by decide, by decide⟩ rfl wf_11_243 dX11_paper_19 ?_
      refine v_cSIp (nA := 2) (As := [bI _, bI _]) (ix := 246) (cf_X11_isNoneOr (b_wp_b h)) rfl wc_X11_isNoneOr wm_11_246 wi_X11_isNoneOr wn_11 ⟨by decide, by decide, by decide⟩ rfl ⟨by decide, by decide⟩ ⟨by decide, by decide⟩ (Nat.le_of_ble_eq_true rfl) dX11_paper_22 (fun x10 h => ?_)
      refine v_if_eq (tgt := 108) dX11_paper_25 (by decide) (fun c11 => ?_) (fun c11 => ?_)
      · replace h := b_wp_t c11 h
        refine v_sub (ls2 := [(0, bR _), (1, bI _), (2, bI _), (3, bI _), (4, bI _), (5, bI _), (6, bI _), (7, bI _), (8, bI _)]) [1, 2, 3, 4, 5, 6, 7, 8, 0] rfl ?_
        exact t_X11_paper_b108 h
      · replace h := b_wp_f c11 h
        refine v_iload_n (f := 3) 4 rfl dX11_paper_28 ?_
        refine v_aload_n (f := 0) 1 rfl dX11_paper_29 ?_
        refine v_getR (kf := 1) (kz := 1) rfl kd_0 rfl ⟨by decide, by decide⟩ rfl wf_11_19 dX11_paper_30 ?_
        refine v_getI (kf := 0) (kz := 0) rfl kd_2 rfl ⟨by decide, by decide⟩ rfl wf_11_249 dX11_paper_33 ?_
        refine v_cSIp (nA := 2) (As := [bI _, bI _]) (ix := 246) (cf_X11_isNoneOr (b_wp_b h)) rfl wc_X11_isNoneOr wm_11_246 wi_X11_isNoneOr wn_11 ⟨by decide, by decide, by decide⟩ rfl ⟨by decide, by decide⟩ ⟨by decide, by decide⟩ (Nat.le_of_ble_eq_true rfl) dX11_paper_36 (fun x12 h => ?_)
        refine v_if_eq (tgt := 108) dX11_paper_39 (by decide) (fun c13 => ?_) (fun c13 => ?_)
        · replace h := b_wp_t c13 h
          refine v_sub (ls2 := [(0, bR _), (1, bI _), (2, bI _), (3, bI _), (4, bI _), (5, bI _), (6, bI _), (7, bI _), (8, bI _)]) [1, 2, 3, 4, 5, 6, 7, 8, 0] rfl ?_
          exact t_X11_paper_b108 h
        · replace h := b_wp_f c13 h
          refine v_iload (i := 4) 5 rfl dX11_paper_42 ?_
          refine v_aload_n (f := 0) 1 rfl dX11_paper_44 ?_
          refine v_getR (kf := 1) (kz := 1) rfl kd_0 rfl ⟨by decide, by decide⟩ rfl wf_11_19 dX11_paper_45 ?_
          refine v_getI (kf := 0) (kz := 0) rfl kd_2 rfl ⟨by decide, by decide⟩ rfl wf_11_249 dX11_paper_48 ?_
          refine v_cSIp (nA := 2) (As := [bI _, bI _]) (ix := 246) (cf_X11_isNoneOr (b_wp_b h)) rfl wc_X11_isNoneOr wm_11_246 wi_X11_isNoneOr wn_11 ⟨by decide, by decide, by decide⟩ rfl ⟨by decide, by decide⟩ ⟨by decide, by decide⟩ (Nat.le_of_ble_eq_true rfl) dX11_paper_51 (fun x14 h => ?_)
          refine v_if_eq (tgt := 108) dX11_paper_54 (by decide) (fun c15 => ?_) (fun c15 => ?_)
          · replace h := b_wp_t c15 h
            refine v_sub (ls2 := [(0, bR _), (1, bI _), (2, bI _), (3, bI _), (4, bI _), (5, bI _), (6, bI _), (7, bI _), (8, bI _)]) [1, 2, 3, 4, 5, 6, 7, 8, 0] rfl ?_
            exact t_X11_paper_b108 h
          · replace h := b_wp_f c15 h
            refine v_iload (i := 5) 6 rfl dX11_paper_57 ?_
            refine v_aload_n (f := 0) 1 rfl dX11_paper_59 ?_
            refine v_getR (kf := 2) (kz := 2) rfl kd_0 rfl ⟨by decide, by decide⟩ rfl wf_11_26 dX11_paper_60 ?_
            refine v_getI (kf := 0) (kz := 0) rfl kd_3 rfl ⟨by decide, by decide⟩ rfl wf_11_250 dX11_paper_63 ?_
            refine v_cSIp (nA := 2) (As := [bI _, bI _]) (ix := 246) (cf_X11_isNoneOr (b_wp_b h)) rfl wc_X11_isNoneOr wm_11_246 wi_X11_isNoneOr wn_11 ⟨by decide, by decide, by decide⟩ rfl ⟨by decide, by decide⟩ ⟨by decide, by decide⟩ (Nat.le_of_ble_eq_true rfl) dX11_paper_66 (fun x16 h => ?_)
            refine v_if_eq (tgt := 108) dX11_paper_69 (by decide) (fun c17 => ?_) (fun c17 => ?_)
            · replace h := b_wp_t c17 h
              refine v_sub (ls2 := [(0, bR _), (1, bI _), (2, bI _), (3, bI _), (4, bI _), (5, bI _), (6, bI _), (7, bI _), (8, bI _)]) [1, 2, 3, 4, 5, 6, 7, 8, 0] rfl ?_
              exact t_X11_paper_b108 h
            · replace h := b_wp_f c17 h
              refine v_iload (i := 6) 7 rfl dX11_paper_72 ?_
              refine v_cSIp (nA := 1) (As := [bI _]) (ix := 102) (cf_X11_isDay (b_wp_b h)) rfl wc_X11_isDay wm_11_102 wi_X11_isDay wn_11 ⟨by decide, by decide, by decide⟩ rfl ⟨by decide, by decide⟩ ⟨by decide, by decide⟩ (Nat.le_of_ble_eq_true rfl) dX11_paper_74 (fun x18 h => ?_)
              refine v_if_eq (tgt := 108) dX11_paper_77 (by decide) (fun c19 => ?_) (fun c19 => ?_)
              · replace h := b_wp_t c19 h
                refine v_sub (ls2 := [(0, bR _), (1, bI _), (2, bI _), (3, bI _), (4, bI _), (5, bI _), (6, bI _), (7, bI _), (8, bI _)]) [1, 2, 3, 4, 5, 6, 7, 8, 0] rfl ?_
                exact t_X11_paper_b108 h
              · replace h := b_wp_f c19 h
                refine v_iload (i := 7) 8 rfl dX11_paper_80 ?_
                refine v_cSIp (nA := 1) (As := [bI _]) (ix := 102) (cf_X11_isDay (b_wp_b h)) rfl wc_X11_isDay wm_11_102 wi_X11_isDay wn_11 ⟨by decide, by decide, by decide⟩ rfl ⟨by decide, by decide⟩ ⟨by decide, by decide⟩ (Nat.le_of_ble_eq_true rfl) dX11_paper_82 (fun x20 h => ?_)
                refine v_if_eq (tgt := 108) dX11_paper_85 (by decide) (fun c21 => ?_) (fun c21 => ?_)
                · replace h := b_wp_t c21 h
                  refine v_sub (ls2 := [(0, bR _), (1, bI _), (2, bI _), (3, bI _), (4, bI _), (5, bI _), (6, bI _), (7, bI _), (8, bI _)]) [1, 2, 3, 4, 5, 6, 7, 8, 0] rfl ?_
                  exact t_X11_paper_b108 h
                · replace h := b_wp_f c21 h
                  refine v_iload (i := 6) 7 rfl dX11_paper_88 ?_
                  refine v_iload (i := 7) 8 rfl dX11_paper_90 ?_
                  refine v_icmp_gt (tgt := 108) dX11_paper_92 (by decide) (fun c22 => ?_) (fun c22 => ?_)
                  · replace h := b_wp_t c22 h
                    refine v_sub (ls2 := [(0, bR _), (1, bI _), (2, bI _), (3, bI _), (4, bI _), (5, bI _), (6, bI _), (7, bI _), (8, bI _)]) [1, 2, 3, 4, 5, 6, 7, 8, 0] rfl ?_
                    exact t_X11_paper_b108 h
                  · replace h := b_wp_f c22 h
                    refine v_aload_n (f := 0) 1 rfl dX11_paper_95 ?_
                    refine v_getR (kf := 4) (kz := 4) rfl kd_0 rfl ⟨by decide, by decide⟩ rfl wf_11_42 dX11_paper_96 ?_
                    refine v_aload_n (f := 0) 1 rfl dX11_paper_99 ?_
                    refine v_getR (kf := 0) (kz := 0) rfl kd_0 rfl ⟨by decide, by decide⟩ rfl wf_11_10 dX11_paper_100 ?_
                    refine v_cVI (nA := 1) (As := [bR _]) (ix := 251) (cf_X7_readMarks_1 (b_wp_b h)) rfl kd_5 rfl rfl wc_X7_readMarks wm_11_251 wi_X7_readMarks ws_X7_readMarks wn_7 ⟨by decide, by decide, by decide⟩ rfl ⟨by decide, by decide⟩ ⟨by decide, by decide⟩ (Nat.le_of_ble_eq_true rfl) dX11_paper_103 (fun x23 M24 h => ?_)
                    replace h := b_wp_two h
                    refine v_istore (i := 8) (ls' := [(8, bI _), (0, bR _), (1, bI _), (2, bI _), (3, bI _), (4, bI _), (5, bI _), (6, bI _), (7, bI _)]) (by decide) dX11_paper_106 rfl ?_
                    refine v_sub (ls2 := [(0, bR _), (1, bI _), (2, bI _), (3, bI _), (4, bI _), (5, bI _), (6, bI _), (7, bI _), (8, bI _)]) [1, 2, 3, 4, 5, 6, 7, 8, 0] rfl ?_
                    exact t_X11_paper_b108 h
theorem cf_X11_paper {l : Launch} {E : bE} {M : bM} {v1 : Int} {v2 : Int} {v3 : Int} {v4 : Int} {v5 : Int} {v6 : Int} {v7 : Int} {Q : (Int × bM) → Prop} (h : b_wp (F_X11_paper v1 v2 v3 v4 v5 v6 v7 M) Q) : b_C l E xX11_paper yX11_paper [bR 0, bI v1, bI v2, bI v3, bI v4, bI v5, bI v6, bI v7] M (b_pI Q) := b_met (by decide) ⟨rfl, rfl⟩ (Nat.le_of_ble_eq_true rfl) (fun _ _ => t_X11_paper h)
abbrev xX7_sign : bX := ("BurntHall$Papers", prog_9_method_8_code, 5, (Option.none : Option Jvm.ClassFile.FieldType), b_rm 2 0 0, 0, "sign")
abbrev yX7_sign : MethodName := ⟨"BurntHall$Papers", "sign", "(IIII)V"⟩
theorem dX7_sign_0 : decode prog_9_method_8_code 0 = .ok (.aload_n 0, 1) := by decide +kernel
theorem dX7_sign_1 : decode prog_9_method_8_code 1 = .ok (.iload_n 1, 1) := by decide +kernel
theorem dX7_sign_2 : decode prog_9_method_8_code 2 = .ok (.invokevirtual 105, 3) := by decide +kernel
theorem dX7_sign_5 : decode prog_9_method_8_code 5 = .ok (.ifCond .eq 25, 3) := by decide +kernel
theorem dX7_sign_8 : decode prog_9_method_8_code 8 = .ok (.aload_n 0, 1) := by decide +kernel
theorem dX7_sign_9 : decode prog_9_method_8_code 9 = .ok (.getfield 36, 3) := by decide +kernel
theorem dX7_sign_12 : decode prog_9_method_8_code 12 = .ok (.iload_n 1, 1) := by decide +kernel
theorem dX7_sign_13 : decode prog_9_method_8_code 13 = .ok (.iload_n 2, 1) := by decide +kernel
theorem dX7_sign_14 : decode prog_9_method_8_code 14 = .ok (.iastore, 1) := by decide +kernel
theorem dX7_sign_15 : decode prog_9_method_8_code 15 = .ok (.aload_n 0, 1) := by decide +kernel
theorem dX7_sign_16 : decode prog_9_method_8_code 16 = .ok (.getfield 39, 3) := by decide +kernel
theorem dX7_sign_19 : decode prog_9_method_8_code 19 = .ok (.iload_n 1, 1) := by decide +kernel
theorem dX7_sign_20 : decode prog_9_method_8_code 20 = .ok (.iload_n 3, 1) := by decide +kernel
theorem dX7_sign_21 : decode prog_9_method_8_code 21 = .ok (.iastore, 1) := by decide +kernel
theorem dX7_sign_22 : decode prog_9_method_8_code 22 = .ok (.aload_n 0, 1) := by decide +kernel
theorem dX7_sign_23 : decode prog_9_method_8_code 23 = .ok (.getfield 42, 3) := by decide +kernel
theorem dX7_sign_26 : decode prog_9_method_8_code 26 = .ok (.iload_n 1, 1) := by decide +kernel
theorem dX7_sign_27 : decode prog_9_method_8_code 27 = .ok (.iload 4, 2) := by decide +kernel
theorem dX7_sign_29 : decode prog_9_method_8_code 29 = .ok (.iastore, 1) := by decide +kernel
theorem dX7_sign_30 : decode prog_9_method_8_code 30 = .ok (.return_, 1) := by decide +kernel
noncomputable def F_X7_sign (v1 : Int) (v2 : Int) (v3 : Int) (v4 : Int) (M : bM) : Option (bM) :=
  b_bind (F_X7_has v1 M) (fun x1 => if x1 = 0 then (some M) else (b_g (0 ≤ v1 ∧ v1 < 120) (b_let (b_up M 116 v1 v2) (fun M4 => b_g (0 ≤ v1 ∧ v1 < 120) (b_let (b_up M4 117 v1 v3) (fun M6 => b_g (0 ≤ v1 ∧ v1 < 120) (b_let (b_up M6 118 v1 v4) (fun M8 => some M8))))))))
theorem t_X7_sign {l : Launch} {E : bE} {Q : bM → Prop} {v1 : Int} {v2 : Int} {v3 : Int} {v4 : Int} {M : bM} (h : b_wp (F_X7_sign v1 v2 v3 v4 M) (Q)) : V l E xX7_sign (0, 0) 0 [(0, bR 5), (1, bI v1), (2, bI v2), (3, bI v3), (4, bI v4)] [] M (b_pV Q) := by
  unfold F_X7_sign at h
  refine v_aload_n (f := 0) 0 rfl dX7_sign_0 ?_
  refine v_iload_n (f := 1) 1 rfl dX7_sign_1 ?_
  refine v_cVIp (nA := 1) (As := [bI _]) (ix := 105) (cf_X7_has (b_wp_b h)) rfl kd_5 rfl rfl wc_X7_has wm_7_105 wi_X7_has ws_X7_has wn_7 ⟨by decide, by decide, by decide⟩ rfl ⟨by decide, by decide⟩ ⟨by decide, by decide⟩ (Nat.le_of_ble_eq_true rfl) dX7_sign_2 (fun x1 h => ?_)
  refine v_if_eq (tgt := 30) dX7_sign_5 (by decide) (fun c2 => ?_) (fun c2 => ?_)
  · replace h := b_wp_t c2 h
    refine v_return rfl dX7_sign_30 ⟨by decide, by decide⟩ ?_
    exact ⟨rfl, h⟩
  · replace h := b_wp_f c2 h
    obtain ⟨g3, h⟩ := b_wp_g h
    refine v_aload_n (f := 0) 0 rfl dX7_sign_8 ?_
    refine v_getR (kf := 8) (kz := 8) rfl kd_5 rfl ⟨by decide, by decide⟩ rfl wf_7_36 dX7_sign_9 ?_
    refine v_iload_n (f := 1) 1 rfl dX7_sign_12 ?_
    refine v_iload_n (f := 2) 2 rfl dX7_sign_13 ?_
    refine v_iastore kd_116 g3 (by decide) dX7_sign_14 ?_
    replace h := b_wp_l h
    obtain ⟨g5, h⟩ := b_wp_g h
    refine v_aload_n (f := 0) 0 rfl dX7_sign_15 ?_
    refine v_getR (kf := 9) (kz := 9) rfl kd_5 rfl ⟨by decide, by decide⟩ rfl wf_7_39 dX7_sign_16 ?_
    refine v_iload_n (f := 1) 1 rfl dX7_sign_19 ?_
    refine v_iload_n (f := 3) 3 rfl dX7_sign_20 ?_
    refine v_iastore kd_117 g5 (by decide) dX7_sign_21 ?_
    replace h := b_wp_l h
    obtain ⟨g7, h⟩ := b_wp_g h
    refine v_aload_n (f := 0) 0 rfl dX7_sign_22 ?_
    refine v_getR (kf := 10) (kz := 10) rfl kd_5 rfl ⟨by decide, by decide⟩ rfl wf_7_42 dX7_sign_23 ?_
    refine v_iload_n (f := 1) 1 rfl dX7_sign_26 ?_
    refine v_iload (i := 4) 4 rfl dX7_sign_27 ?_
    refine v_iastore kd_118 g7 (by decide) dX7_sign_29 ?_
    replace h := b_wp_l h
    refine v_return rfl dX7_sign_30 ⟨by decide, by decide⟩ ?_
    exact ⟨rfl, h⟩
theorem cf_X7_sign {l : Launch} {E : bE} {M : bM} {v1 : Int} {v2 : Int} {v3 : Int} {v4 : Int} {Q : bM → Prop} (h : b_wp (F_X7_sign v1 v2 v3 v4 M) Q) : b_C l E xX7_sign yX7_sign [bR 5, bI v1, bI v2, bI v3, bI v4] M (b_pV Q) := b_met (by decide) ⟨rfl, rfl⟩ (Nat.le_of_ble_eq_true rfl) (fun _ _ => t_X7_sign h)
abbrev xX11_written : bX := ("BurntHall", prog_1_method_30_code, 6, (Option.some Jvm.ClassFile.FieldType.int), b_rm 3 0 0, 0, "written")
abbrev yX11_written : MethodName := ⟨"BurntHall", "written", "(IIIII)I"⟩
theorem dX11_written_0 : decode prog_1_method_30_code 0 = .ok (.aload_n 0, 1) := by decide +kernel
theorem dX11_written_1 : decode prog_1_method_30_code 1 = .ok (.getfield 42, 3) := by decide +kernel
theorem dX11_written_4 : decode prog_1_method_30_code 4 = .ok (.iload_n 1, 1) := by decide +kernel
theorem dX11_written_5 : decode prog_1_method_30_code 5 = .ok (.invokevirtual 265, 3) := by decide +kernel
theorem dX11_written_8 : decode prog_1_method_30_code 8 = .ok (.ifCond .eq 45, 3) := by decide +kernel
theorem dX11_written_11 : decode prog_1_method_30_code 11 = .ok (.aload_n 0, 1) := by decide +kernel
theorem dX11_written_12 : decode prog_1_method_30_code 12 = .ok (.getfield 19, 3) := by decide +kernel
theorem dX11_written_15 : decode prog_1_method_30_code 15 = .ok (.iload_n 2, 1) := by decide +kernel
theorem dX11_written_16 : decode prog_1_method_30_code 16 = .ok (.invokevirtual 110, 3) := by decide +kernel
theorem dX11_written_19 : decode prog_1_method_30_code 19 = .ok (.ifCond .eq 34, 3) := by decide +kernel
theorem dX11_written_22 : decode prog_1_method_30_code 22 = .ok (.iload_n 3, 1) := by decide +kernel
theorem dX11_written_23 : decode prog_1_method_30_code 23 = .ok (.invokestatic 102, 3) := by decide +kernel
theorem dX11_written_26 : decode prog_1_method_30_code 26 = .ok (.ifCond .eq 27, 3) := by decide +kernel
theorem dX11_written_29 : decode prog_1_method_30_code 29 = .ok (.iload 4, 2) := by decide +kernel
theorem dX11_written_31 : decode prog_1_method_30_code 31 = .ok (.ifCond .lt 22, 3) := by decide +kernel
theorem dX11_written_34 : decode prog_1_method_30_code 34 = .ok (.iload 4, 2) := by decide +kernel
theorem dX11_written_36 : decode prog_1_method_30_code 36 = .ok (.bipush 9, 2) := by decide +kernel
theorem dX11_written_38 : decode prog_1_method_30_code 38 = .ok (.if_icmp .gt 15, 3) := by decide +kernel
theorem dX11_written_41 : decode prog_1_method_30_code 41 = .ok (.iload 5, 2) := by decide +kernel
theorem dX11_written_43 : decode prog_1_method_30_code 43 = .ok (.ifCond .lt 10, 3) := by decide +kernel
theorem dX11_written_46 : decode prog_1_method_30_code 46 = .ok (.iload 5, 2) := by decide +kernel
theorem dX11_written_48 : decode prog_1_method_30_code 48 = .ok (.bipush 99, 2) := by decide +kernel
theorem dX11_written_50 : decode prog_1_method_30_code 50 = .ok (.if_icmp .le 6, 3) := by decide +kernel
theorem dX11_written_53 : decode prog_1_method_30_code 53 = .ok (.bipush (-2), 2) := by decide +kernel
theorem dX11_written_55 : decode prog_1_method_30_code 55 = .ok (.ireturn, 1) := by decide +kernel
theorem dX11_written_56 : decode prog_1_method_30_code 56 = .ok (.aload_n 0, 1) := by decide +kernel
theorem dX11_written_57 : decode prog_1_method_30_code 57 = .ok (.getfield 42, 3) := by decide +kernel
theorem dX11_written_60 : decode prog_1_method_30_code 60 = .ok (.getfield 266, 3) := by decide +kernel
theorem dX11_written_63 : decode prog_1_method_30_code 63 = .ok (.iload_n 1, 1) := by decide +kernel
theorem dX11_written_64 : decode prog_1_method_30_code 64 = .ok (.iaload, 1) := by decide +kernel
theorem dX11_written_65 : decode prog_1_method_30_code 65 = .ok (.iconst (-1), 1) := by decide +kernel
theorem dX11_written_66 : decode prog_1_method_30_code 66 = .ok (.if_icmp .eq 6, 3) := by decide +kernel
theorem dX11_written_69 : decode prog_1_method_30_code 69 = .ok (.bipush (-4), 2) := by decide +kernel
theorem dX11_written_71 : decode prog_1_method_30_code 71 = .ok (.ireturn, 1) := by decide +kernel
theorem dX11_written_72 : decode prog_1_method_30_code 72 = .ok (.aload_n 0, 1) := by decide +kernel
theorem dX11_written_73 : decode prog_1_method_30_code 73 = .ok (.getfield 42, 3) := by decide +kernel
theorem dX11_written_76 : decode prog_1_method_30_code 76 = .ok (.iload_n 1, 1) := by decide +kernel
theorem dX11_written_77 : decode prog_1_method_30_code 77 = .ok (.iload_n 2, 1) := by decide +kernel
theorem dX11_written_78 : decode prog_1_method_30_code 78 = .ok (.iload_n 3, 1) := by decide +kernel
theorem dX11_written_79 : decode prog_1_method_30_code 79 = .ok (.iload 4, 2) := by decide +kernel
theorem dX11_written_81 : decode prog_1_method_30_code 81 = .ok (.bipush 100, 2) := by decide +kernel
theorem dX11_written_83 : decode prog_1_method_30_code 83 = .ok (.imul, 1) := by decide +kernel
theorem dX11_written_84 : decode prog_1_method_30_code 84 = .ok (.iload 5, 2) := by decide +kernel
theorem dX11_written_86 : decode prog_1_method_30_code 86 = .ok (.iadd, 1) := by decide +kernel
theorem dX11_written_87 : decode prog_1_method_30_code 87 = .ok (.invokevirtual 269, 3) := by decide +kernel
theorem dX11_written_90 : decode prog_1_method_30_code 90 = .ok (.aload_n 0, 1) := by decide +kernel
theorem dX11_written_91 : decode prog_1_method_30_code 91 = .ok (.getfield 51, 3) := by decide +kernel
theorem dX11_written_94 : decode prog_1_method_30_code 94 = .ok (.invokevirtual 113, 3) := by decide +kernel
theorem dX11_written_97 : decode prog_1_method_30_code 97 = .ok (.iconst 1, 1) := by decide +kernel
theorem dX11_written_98 : decode prog_1_method_30_code 98 = .ok (.ireturn, 1) := by decide +kernel
noncomputable def F_X11_written (v1 : Int) (v2 : Int) (v3 : Int) (v4 : Int) (v5 : Int) (M : bM) : Option (Int × bM) :=
  b_bind (F_X7_has v1 M) (fun x1 => if x1 = 0 then (some ((-2), M)) else (b_bind (F_X8_has v2 M) (fun x3 => if x3 = 0 then (some ((-2), M)) else (b_bind (F_X11_isDay v3 M) (fun x5 => if x5 = 0 then (some ((-2), M)) else (if v4 < 0 then (some ((-2), M)) else (if 9 < v4 then (some ((-2), M)) else (if v5 < 0 then (some ((-2), M)) else (if v5 ≤ 99 then (b_g (0 ≤ v1 ∧ v1 < 120) (if (M 116 v1) = (-1) then (b_g ((b_i32 (v4 * 100)) ∧ (b_i32 ((v4 * 100) + v5))) (b_bind (F_X7_sign v1 v2 v3 ((v4 * 100) + v5) M) (fun M15 => b_bind (F_X4_forget M15) (fun M16 => some (1, M16))))) else (some ((-4), M)))) else (some ((-2), M)))))))))))
theorem t_X11_written {l : Launch} {E : bE} {Q : (Int × bM) → Prop} {v1 : Int} {v2 : Int} {v3 : Int} {v4 : Int} {v5 : Int} {M : bM} (h : b_wp (F_X11_written v1 v2 v3 v4 v5 M) (Q)) : V l E xX11_written (0, 0) 0 [(0, bR 0), (1, bI v1), (2, bI v2), (3, bI v3), (4, bI v4), (5, bI v5)] [] M (b_pI Q) := by
  unfold F_X11_written at h
  refine v_aload_n (f := 0) 0 rfl dX11_written_0 ?_
  refine v_getR (kf := 4) (kz := 4) rfl kd_0 rfl ⟨by decide, by decide⟩ rfl wf_11_42 dX11_written_1 ?_
  refine v_iload_n (f := 1) 1 rfl dX11_written_4 ?_
  refine v_cVIp (nA := 1) (As := [bI _]) (ix := 265) (cf_X7_has (b_wp_b h)) rfl kd_5 rfl rfl wc_X7_has wm_11_265 wi_X7_has ws_X7_has wn_7 ⟨by decide, by decide, by decide⟩ rfl ⟨by decide, by decide⟩ ⟨by decide, by decide⟩ (Nat.le_of_ble_eq_true rfl) dX11_written_5 (fun x1 h => ?_)
  refine v_if_eq (tgt := 53) dX11_written_8 (by decide) (fun c2 => ?_) (fun c2 => ?_)
  · replace h := b_wp_t c2 h
    refine v_bipush ⟨by decide, by decide⟩ (by decide) dX11_written_53 ?_
    refine v_ireturn rfl dX11_written_55 ⟨by decide, by decide⟩ ?_
    exact ⟨_, rfl, h⟩
  · replace h := b_wp_f c2 h
    refine v_aload_n (f := 0) 0 rfl dX11_written_11 ?_
    refine v_getR (kf := 1) (kz := 1) rfl kd_0 rfl ⟨by decide, by decide⟩ rfl wf_11_19 dX11_written_12 ?_
    refine v_iload_n (f := 2) 2 rfl dX11_written_15 ?_
    refine v_cVIp (nA := 1) (As := [bI _]) (ix := 110) (cf_X8_has (b_wp_b h)) rfl kd_2 rfl rfl wc_X8_has wm_11_110 wi_X8_has ws_X8_has wn_8 ⟨by decide, by decide, by decide⟩ rfl ⟨by decide, by decide⟩ ⟨by decide, by decide⟩ (Nat.le_of_ble_eq_true rfl) dX11_written_16 (fun x3 h => ?_)
    refine v_if_eq (tgt := 53) dX11_written_19 (by decide) (fun c4 => ?_) (fun c4 => ?_)
    · replace h := b_wp_t c4 h
      refine v_bipush ⟨by decide, by decide⟩ (by decide) dX11_written_53 ?_
      refine v_ireturn rfl dX11_written_55 ⟨by decide, by decide⟩ ?_
      exact ⟨_, rfl, h⟩
    · replace h := b_wp_f c4 h
      refine v_iload_n (f := 3) 3 rfl dX11_written_22 ?_
      refine v_cSIp (nA := 1) (As := [bI _]) (ix := 102) (cf_X11_isDay (b_wp_b h)) rfl wc_X11_isDay wm_11_102 wi_X11_isDay wn_11 ⟨by decide, by decide, by decide⟩ rfl ⟨by decide, by decide⟩ ⟨by decide, by decide⟩ (Nat.le_of_ble_eq_true rfl) dX11_written_23 (fun x5 h => ?_)
      refine v_if_eq (tgt := 53) dX11_written_26 (by decide) (fun c6 => ?_) (fun c6 => ?_)
      · replace h := b_wp_t c6 h
        refine v_bipush ⟨by decide, by decide⟩ (by decide) dX11_written_53 ?_
        refine v_ireturn rfl dX11_written_55 ⟨by decide, by decide⟩ ?_
        exact ⟨_, rfl, h⟩
      · replace h := b_wp_f c6 h
        refine v_iload (i := 4) 4 rfl dX11_written_29 ?_
        refine v_if_lt (tgt := 53) dX11_written_31 (by decide) (fun c7 => ?_) (fun c7 => ?_)
        · replace h := b_wp_t c7 h
          refine v_bipush ⟨by decide, by decide⟩ (by decide) dX11_written_53 ?_
          refine v_ireturn rfl dX11_written_55 ⟨by decide, by decide⟩ ?_
          exact ⟨_, rfl, h⟩
        · replace h := b_wp_f c7 h
          refine v_iload (i := 4) 4 rfl dX11_written_34 ?_
          refine v_bipush ⟨by decide, by decide⟩ (by decide) dX11_written_36 ?_
          refine v_icmp_gt (tgt := 53) dX11_written_38 (by decide) (fun c8 => ?_) (fun c8 => ?_)
          · replace h := b_wp_t c8 h
            refine v_bipush ⟨by decide, by decide⟩ (by decide) dX11_written_53 ?_
            refine v_ireturn rfl dX11_written_55 ⟨by decide, by decide⟩ ?_
            exact ⟨_, rfl, h⟩
          · replace h := b_wp_f c8 h
            refine v_iload (i := 5) 5 rfl dX11_written_41 ?_
            refine v_if_lt (tgt := 53) dX11_written_43 (by decide) (fun c9 => ?_) (fun c9 => ?_)
            · replace h := b_wp_t c9 h
              refine v_bipush ⟨by decide, by decide⟩ (by decide) dX11_written_53 ?_
              refine v_ireturn rfl dX11_written_55 ⟨by decide, by decide⟩ ?_
              exact ⟨_, rfl, h⟩
            · replace h := b_wp_f c9 h
              refine v_iload (i := 5) 5 rfl dX11_written_46 ?_
              refine v_bipush ⟨by decide, by decide⟩ (by decide) dX11_written_48 ?_
              refine v_icmp_le (tgt := 56) dX11_written_50 (by decide) (fun c10 => ?_) (fun c10 => ?_)
              · replace h := b_wp_t c10 h
                obtain ⟨g11, h⟩ := b_wp_g h
                refine v_aload_n (f := 0) 0 rfl dX11_written_56 ?_
                refine v_getR (kf := 4) (kz := 4) rfl kd_0 rfl ⟨by decide, by decide⟩ rfl wf_11_42 dX11_written_57 ?_
                refine v_getR (kf := 8) (kz := 8) rfl kd_5 rfl ⟨by decide, by decide⟩ rfl wf_11_266 dX11_written_60 ?_
                refine v_iload_n (f := 1) 1 rfl dX11_written_63 ?_
                refine v_iaload kd_116 g11 (by decide) dX11_written_64 ?_
                refine v_iconst ⟨by decide, by decide⟩ dX11_written_65 ?_
                refine v_icmp_eq (tgt := 72) dX11_written_66 (by decide) (fun c12 => ?_) (fun c12 => ?_)
                · replace h := b_wp_t c12 h
                  obtain ⟨⟨g13, g14⟩, h⟩ := b_wp_g h
                  refine v_aload_n (f := 0) 0 rfl dX11_written_72 ?_
                  refine v_getR (kf := 4) (kz := 4) rfl kd_0 rfl ⟨by decide, by decide⟩ rfl wf_11_42 dX11_written_73 ?_
                  refine v_iload_n (f := 1) 1 rfl dX11_written_76 ?_
                  refine v_iload_n (f := 2) 2 rfl dX11_written_77 ?_
                  refine v_iload_n (f := 3) 3 rfl dX11_written_78 ?_
                  refine v_iload (i := 4) 4 rfl dX11_written_79 ?_
                  refine v_bipush ⟨by decide, by decide⟩ (by decide) dX11_written_81 ?_
                  refine v_imulN g13 dX11_written_83 ?_
                  refine v_iload (i := 5) 5 rfl dX11_written_84 ?_
                  refine v_iaddN g14 dX11_written_86 ?_
                  refine v_cVV (nA := 4) (As := [bI _, bI _, bI _, bI _]) (ix := 269) (cf_X7_sign (b_wp_b h)) rfl kd_5 rfl rfl wc_X7_sign wm_11_269 wi_X7_sign ws_X7_sign wn_7 ⟨by decide, by decide, by decide⟩ rfl ⟨by decide, by decide⟩ ⟨by decide, by decide⟩ (Nat.le_of_ble_eq_true rfl) dX11_written_87 (fun M15 h => ?_)
                  refine v_aload_n (f := 0) 0 rfl dX11_written_90 ?_
                  refine v_getR (kf := 5) (kz := 5) rfl kd_0 rfl ⟨by decide, by decide⟩ rfl wf_11_51 dX11_written_91 ?_
                  refine v_cVV (nA := 0) (As := []) (ix := 113) (cf_X4_forget (b_wp_b h)) rfl kd_6 rfl rfl wc_X4_forget wm_11_113 wi_X4_forget ws_X4_forget wn_4 ⟨by decide, by decide, by decide⟩ rfl ⟨by decide, by decide⟩ ⟨by decide, by decide⟩ (Nat.le_of_ble_eq_true rfl) dX11_written_94 (fun M16 h => ?_)
                  refine v_iconst ⟨by decide, by decide⟩ dX11_written_97 ?_
                  refine v_ireturn rfl dX11_written_98 ⟨by decide, by decide⟩ ?_
                  exact ⟨_, rfl, h⟩
                · replace h := b_wp_f c12 h
                  refine v_bipush ⟨by decide, by decide⟩ (by decide) dX11_written_69 ?_
                  refine v_ireturn rfl dX11_written_71 ⟨by decide, by decide⟩ ?_
                  exact ⟨_, rfl, h⟩
              · replace h := b_wp_f c10 h
                refine v_bipush ⟨by decide, by decide⟩ (by decide) dX11_written_53 ?_
                refine v_ireturn rfl dX11_written_55 ⟨by decide, by decide⟩ ?_
                exact ⟨_, rfl, h⟩
theorem cf_X11_written {l : Launch} {E : bE} {M : bM} {v1 : Int} {v2 : Int} {v3 : Int} {v4 : Int} {v5 : Int} {Q : (Int × bM) → Prop} (h : b_wp (F_X11_written v1 v2 v3 v4 v5 M) Q) : b_C l E xX11_written yX11_written [bR 0, bI v1, bI v2, bI v3, bI v4, bI v5] M (b_pI Q) := b_met (by decide) ⟨rfl, rfl⟩ (Nat.le_of_ble_eq_true rfl) (fun _ _ => t_X11_written h)
abbrev xX11_pages : bX := ("BurntHall", prog_1_method_31_code, 3, (Option.some Jvm.ClassFile.FieldType.int), b_rm 2 0 0, 0, "pages")
abbrev yX11_pages : MethodName := ⟨"BurntHall", "pages", "(I)I"⟩
theorem dX11_pages_0 : decode prog_1_method_31_code 0 = .ok (.iload_n 1, 1) := by decide +kernel
theorem dX11_pages_1 : decode prog_1_method_31_code 1 = .ok (.iconst 1, 1) := by decide +kernel
theorem dX11_pages_2 : decode prog_1_method_31_code 2 = .ok (.if_icmp .lt 9, 3) := by decide +kernel
theorem dX11_pages_5 : decode prog_1_method_31_code 5 = .ok (.iload_n 1, 1) := by decide +kernel
theorem dX11_pages_6 : decode prog_1_method_31_code 6 = .ok (.bipush 40, 2) := by decide +kernel
theorem dX11_pages_8 : decode prog_1_method_31_code 8 = .ok (.if_icmp .le 6, 3) := by decide +kernel
theorem dX11_pages_11 : decode prog_1_method_31_code 11 = .ok (.bipush (-2), 2) := by decide +kernel
theorem dX11_pages_13 : decode prog_1_method_31_code 13 = .ok (.ireturn, 1) := by decide +kernel
theorem dX11_pages_14 : decode prog_1_method_31_code 14 = .ok (.aload_n 0, 1) := by decide +kernel
theorem dX11_pages_15 : decode prog_1_method_31_code 15 = .ok (.getfield 42, 3) := by decide +kernel
theorem dX11_pages_18 : decode prog_1_method_31_code 18 = .ok (.getfield 272, 3) := by decide +kernel
theorem dX11_pages_21 : decode prog_1_method_31_code 21 = .ok (.istore_n 2, 1) := by decide +kernel
theorem dX11_pages_22 : decode prog_1_method_31_code 22 = .ok (.aload_n 0, 1) := by decide +kernel
theorem dX11_pages_23 : decode prog_1_method_31_code 23 = .ok (.getfield 42, 3) := by decide +kernel
theorem dX11_pages_26 : decode prog_1_method_31_code 26 = .ok (.iload_n 1, 1) := by decide +kernel
theorem dX11_pages_27 : decode prog_1_method_31_code 27 = .ok (.putfield 272, 3) := by decide +kernel
theorem dX11_pages_30 : decode prog_1_method_31_code 30 = .ok (.aload_n 0, 1) := by decide +kernel
theorem dX11_pages_31 : decode prog_1_method_31_code 31 = .ok (.getfield 51, 3) := by decide +kernel
theorem dX11_pages_34 : decode prog_1_method_31_code 34 = .ok (.invokevirtual 113, 3) := by decide +kernel
theorem dX11_pages_37 : decode prog_1_method_31_code 37 = .ok (.iload_n 2, 1) := by decide +kernel
theorem dX11_pages_38 : decode prog_1_method_31_code 38 = .ok (.ireturn, 1) := by decide +kernel
noncomputable def F_X11_pages (v1 : Int) (M : bM) : Option (Int × bM) :=
  if v1 < 1 then (some ((-2), M)) else (if v1 ≤ 40 then (b_let (b_up M 5 1 v1) (fun M3 => b_bind (F_X4_forget M3) (fun M4 => some ((M 5 1), M4)))) else (some ((-2), M)))
theorem t_X11_pages {l : Launch} {E : bE} {Q : (Int × bM) → Prop} {v1 : Int} {M : bM} (h : b_wp (F_X11_pages v1 M) (Q)) : V l E xX11_pages (0, 0) 0 [(0, bR 0), (1, bI v1)] [] M (b_pI Q) := by
  unfold F_X11_pages at h
  refine v_iload_n (f := 1) 1 rfl dX11_pages_0 ?_
  refine v_iconst ⟨by decide, by decide⟩ dX11_pages_1 ?_
  refine v_icmp_lt (tgt := 11) dX11_pages_2 (by decide) (fun c1 => ?_) (fun c1 => ?_)
  · replace h := b_wp_t c1 h
    refine v_bipush ⟨by decide, by decide⟩ (by decide) dX11_pages_11 ?_
    refine v_ireturn rfl dX11_pages_13 ⟨by decide, by decide⟩ ?_
    exact ⟨_, rfl, h⟩
  · replace h := b_wp_f c1 h
    refine v_iload_n (f := 1) 1 rfl dX11_pages_5 ?_
    refine v_bipush ⟨by decide, by decide⟩ (by decide) dX11_pages_6 ?_
    refine v_icmp_le (tgt := 14) dX11_pages_8 (by decide) (fun c2 => ?_) (fun c2 => ?_)
    · replace h := b_wp_t c2 h
      refine v_aload_n (f := 0) 0 rfl dX11_pages_14 ?_
      refine v_getR (kf := 4) (kz := 4) rfl kd_0 rfl ⟨by decide, by decide⟩ rfl wf_11_42 dX11_pages_15 ?_
      refine v_getI (kf := 1) (kz := 1) rfl kd_5 rfl ⟨by decide, by decide⟩ rfl wf_11_272 dX11_pages_18 ?_
      refine v_istore_n (g := 2) (i := 2) (ls' := [(2, bI _), (0, bR _), (1, bI _)]) rfl (by decide) dX11_pages_21 rfl ?_
      refine v_aload_n (f := 0) 1 rfl dX11_pages_22 ?_
      refine v_getR (kf := 4) (kz := 4) rfl kd_0 rfl ⟨by decide, by decide⟩ rfl wf_11_42 dX11_pages_23 ?_
      refine v_iload_n (f := 1) 2 rfl dX11_pages_26 ?_
      refine v_putI (kf := 1) (kz := 1) rfl kd_5 rfl ⟨by decide, by decide⟩ rfl wf_11_272 rfl rfl dX11_pages_27 ?_
      replace h := b_wp_l h
      refine v_aload_n (f := 0) 1 rfl dX11_pages_30 ?_
      refine v_getR (kf := 5) (kz := 5) rfl kd_0 rfl ⟨by decide, by decide⟩ rfl wf_11_51 dX11_pages_31 ?_
      refine v_cVV (nA := 0) (As := []) (ix := 113) (cf_X4_forget (b_wp_b h)) rfl kd_6 rfl rfl wc_X4_forget wm_11_113 wi_X4_forget ws_X4_forget wn_4 ⟨by decide, by decide, by decide⟩ rfl ⟨by decide, by decide⟩ ⟨by decide, by decide⟩ (Nat.le_of_ble_eq_true rfl) dX11_pages_34 (fun M4 h => ?_)
      refine v_iload_n (f := 2) 0 rfl dX11_pages_37 ?_
      refine v_ireturn rfl dX11_pages_38 ⟨by decide, by decide⟩ ?_
      exact ⟨_, rfl, h⟩
    · replace h := b_wp_f c2 h
      refine v_bipush ⟨by decide, by decide⟩ (by decide) dX11_pages_11 ?_
      refine v_ireturn rfl dX11_pages_13 ⟨by decide, by decide⟩ ?_
      exact ⟨_, rfl, h⟩
theorem cf_X11_pages {l : Launch} {E : bE} {M : bM} {v1 : Int} {Q : (Int × bM) → Prop} (h : b_wp (F_X11_pages v1 M) Q) : b_C l E xX11_pages yX11_pages [bR 0, bI v1] M (b_pI Q) := b_met (by decide) ⟨rfl, rfl⟩ (Nat.le_of_ble_eq_true rfl) (fun _ _ => t_X11_pages h)
abbrev xX7_weightBy : bX := ("BurntHall$Papers", prog_9_method_13_code, 3, (Option.some Jvm.ClassFile.FieldType.int), b_rm 2 0 0, 0, "weightBy")
abbrev yX7_weightBy : MethodName := ⟨"BurntHall$Papers", "weightBy", "(II)I"⟩
theorem dX7_weightBy_0 : decode prog_9_method_13_code 0 = .ok (.aload_n 0, 1) := by decide +kernel
theorem dX7_weightBy_1 : decode prog_9_method_13_code 1 = .ok (.iload_n 1, 1) := by decide +kernel
theorem dX7_weightBy_2 : decode prog_9_method_13_code 2 = .ok (.invokevirtual 105, 3) := by decide +kernel
theorem dX7_weightBy_5 : decode prog_9_method_13_code 5 = .ok (.ifCond .eq 27, 3) := by decide +kernel
theorem dX7_weightBy_8 : decode prog_9_method_13_code 8 = .ok (.iload_n 2, 1) := by decide +kernel
theorem dX7_weightBy_9 : decode prog_9_method_13_code 9 = .ok (.ifCond .lt 23, 3) := by decide +kernel
theorem dX7_weightBy_12 : decode prog_9_method_13_code 12 = .ok (.iload_n 2, 1) := by decide +kernel
theorem dX7_weightBy_13 : decode prog_9_method_13_code 13 = .ok (.bipush 9, 2) := by decide +kernel
theorem dX7_weightBy_15 : decode prog_9_method_13_code 15 = .ok (.if_icmp .ge 17, 3) := by decide +kernel
theorem dX7_weightBy_18 : decode prog_9_method_13_code 18 = .ok (.aload_n 0, 1) := by decide +kernel
theorem dX7_weightBy_19 : decode prog_9_method_13_code 19 = .ok (.getfield 61, 3) := by decide +kernel
theorem dX7_weightBy_22 : decode prog_9_method_13_code 22 = .ok (.iload_n 1, 1) := by decide +kernel
theorem dX7_weightBy_23 : decode prog_9_method_13_code 23 = .ok (.bipush 9, 2) := by decide +kernel
theorem dX7_weightBy_25 : decode prog_9_method_13_code 25 = .ok (.imul, 1) := by decide +kernel
theorem dX7_weightBy_26 : decode prog_9_method_13_code 26 = .ok (.iload_n 2, 1) := by decide +kernel
theorem dX7_weightBy_27 : decode prog_9_method_13_code 27 = .ok (.iadd, 1) := by decide +kernel
theorem dX7_weightBy_28 : decode prog_9_method_13_code 28 = .ok (.iaload, 1) := by decide +kernel
theorem dX7_weightBy_29 : decode prog_9_method_13_code 29 = .ok (.goto 4, 3) := by decide +kernel
theorem dX7_weightBy_32 : decode prog_9_method_13_code 32 = .ok (.iconst 0, 1) := by decide +kernel
theorem dX7_weightBy_33 : decode prog_9_method_13_code 33 = .ok (.ireturn, 1) := by decide +kernel
noncomputable def F_X7_weightBy (v1 : Int) (v2 : Int) (M : bM) : Option (Int) :=
  b_bind (F_X7_has v1 M) (fun x1 => if x1 = 0 then (some 0) else (if v2 < 0 then (some 0) else (if 9 ≤ v2 then (some 0) else (b_g ((b_i32 (v1 * 9)) ∧ (b_i32 ((v1 * 9) + v2)) ∧ (0 ≤ ((v1 * 9) + v2) ∧ ((v1 * 9) + v2) < 1080)) (some (M 124 ((v1 * 9) + v2)))))))
theorem t_X7_weightBy {l : Launch} {E : bE} {Q : Int → Prop} {v1 : Int} {v2 : Int} {M : bM} (h : b_wp (F_X7_weightBy v1 v2 M) (Q)) : V l E xX7_weightBy (0, 0) 0 [(0, bR 5), (1, bI v1), (2, bI v2)] [] M (b_pIp M Q) := by
  unfold F_X7_weightBy at h
  refine v_aload_n (f := 0) 0 rfl dX7_weightBy_0 ?_
  refine v_iload_n (f := 1) 1 rfl dX7_weightBy_1 ?_
  refine v_cVIp (nA := 1) (As := [bI _]) (ix := 105) (cf_X7_has (b_wp_b h)) rfl kd_5 rfl rfl wc_X7_has wm_7_105 wi_X7_has ws_X7_has wn_7 ⟨by decide, by decide, by decide⟩ rfl ⟨by decide, by decide⟩ ⟨by decide, by decide⟩ (Nat.le_of_ble_eq_true rfl) dX7_weightBy_2 (fun x1 h => ?_)
  refine v_if_eq (tgt := 32) dX7_weightBy_5 (by decide) (fun c2 => ?_) (fun c2 => ?_)
  · replace h := b_wp_t c2 h
    refine v_iconst ⟨by decide, by decide⟩ dX7_weightBy_32 ?_
    refine v_ireturn rfl dX7_weightBy_33 ⟨by decide, by decide⟩ ?_
    exact ⟨_, rfl, rfl, h⟩
  · replace h := b_wp_f c2 h
    refine v_iload_n (f := 2) 2 rfl dX7_weightBy_8 ?_
    refine v_if_lt (tgt := 32) dX7_weightBy_9 (by decide) (fun c3 => ?_) (fun c3 => ?_)
    · replace h := b_wp_t c3 h
      refine v_iconst ⟨by decide, by decide⟩ dX7_weightBy_32 ?_
      refine v_ireturn rfl dX7_weightBy_33 ⟨by decide, by decide⟩ ?_
      exact ⟨_, rfl, rfl, h⟩
    · replace h := b_wp_f c3 h
      refine v_iload_n (f := 2) 2 rfl dX7_weightBy_12 ?_
      refine v_bipush ⟨by decide, by decide⟩ (by decide) dX7_weightBy_13 ?_
      refine v_icmp_ge (tgt := 32) dX7_weightBy_15 (by decide) (fun c4 => ?_) (fun c4 => ?_)
      · replace h := b_wp_t c4 h
        refine v_iconst ⟨by decide, by decide⟩ dX7_weightBy_32 ?_
        refine v_ireturn rfl dX7_weightBy_33 ⟨by decide, by decide⟩ ?_
        exact ⟨_, rfl, rfl, h⟩
      · replace h := b_wp_f c4 h
        obtain ⟨⟨g5, g6, g7⟩, h⟩ := b_wp_g h
        refine v_aload_n (f := 0) 0 rfl dX7_weightBy_18 ?_
        refine v_getR (kf := 17) (kz := 17) rfl kd_5 rfl ⟨by decide, by decide⟩ rfl wf_7_61 dX7_weightBy_19 ?_
        refine v_iload_n (f := 1) 1 rfl dX7_weightBy_22 ?_
        refine v_bipush ⟨by decide, by decide⟩ (by decide) dX7_weightBy_23 ?_
        refine v_imulN g5 dX7_weightBy_25 ?_
        refine v_iload_n (f := 2) 2 rfl dX7_weightBy_26 ?_
        refine v_iaddN g6 dX7_weightBy_27 ?_
        refine v_iaload kd_124 g7 (by decide) dX7_weightBy_28 ?_
        refine v_goto (tgt := 33) dX7_weightBy_29 (by decide) ?_
        refine v_ireturn rfl dX7_weightBy_33 ⟨by decide, by decide⟩ ?_
        exact ⟨_, rfl, rfl, h⟩
theorem cf_X7_weightBy {l : Launch} {E : bE} {M : bM} {v1 : Int} {v2 : Int} {Q : Int → Prop} (h : b_wp (F_X7_weightBy v1 v2 M) Q) : b_C l E xX7_weightBy yX7_weightBy [bR 5, bI v1, bI v2] M (b_pIp M Q) := b_met (by decide) ⟨rfl, rfl⟩ (Nat.le_of_ble_eq_true rfl) (fun _ _ => t_X7_weightBy h)
abbrev xX11_weight : bX := ("BurntHall", prog_1_method_32_code, 3, (Option.some Jvm.ClassFile.FieldType.int), b_rm 3 0 0, 0, "weight")
abbrev yX11_weight : MethodName := ⟨"BurntHall", "weight", "(II)I"⟩
theorem dX11_weight_0 : decode prog_1_method_32_code 0 = .ok (.aload_n 0, 1) := by decide +kernel
theorem dX11_weight_1 : decode prog_1_method_32_code 1 = .ok (.getfield 42, 3) := by decide +kernel
theorem dX11_weight_4 : decode prog_1_method_32_code 4 = .ok (.iload_n 1, 1) := by decide +kernel
theorem dX11_weight_5 : decode prog_1_method_32_code 5 = .ok (.invokevirtual 265, 3) := by decide +kernel
theorem dX11_weight_8 : decode prog_1_method_32_code 8 = .ok (.ifCond .eq 29, 3) := by decide +kernel
theorem dX11_weight_11 : decode prog_1_method_32_code 11 = .ok (.iload_n 2, 1) := by decide +kernel
theorem dX11_weight_12 : decode prog_1_method_32_code 12 = .ok (.invokestatic 102, 3) := by decide +kernel
theorem dX11_weight_15 : decode prog_1_method_32_code 15 = .ok (.ifCond .eq 22, 3) := by decide +kernel
theorem dX11_weight_18 : decode prog_1_method_32_code 18 = .ok (.aload_n 0, 1) := by decide +kernel
theorem dX11_weight_19 : decode prog_1_method_32_code 19 = .ok (.getfield 42, 3) := by decide +kernel
theorem dX11_weight_22 : decode prog_1_method_32_code 22 = .ok (.iload_n 1, 1) := by decide +kernel
theorem dX11_weight_23 : decode prog_1_method_32_code 23 = .ok (.aload_n 0, 1) := by decide +kernel
theorem dX11_weight_24 : decode prog_1_method_32_code 24 = .ok (.getfield 35, 3) := by decide +kernel
theorem dX11_weight_27 : decode prog_1_method_32_code 27 = .ok (.iload_n 2, 1) := by decide +kernel
theorem dX11_weight_28 : decode prog_1_method_32_code 28 = .ok (.invokevirtual 275, 3) := by decide +kernel
theorem dX11_weight_31 : decode prog_1_method_32_code 31 = .ok (.invokevirtual 278, 3) := by decide +kernel
theorem dX11_weight_34 : decode prog_1_method_32_code 34 = .ok (.goto 5, 3) := by decide +kernel
theorem dX11_weight_37 : decode prog_1_method_32_code 37 = .ok (.bipush (-2), 2) := by decide +kernel
theorem dX11_weight_39 : decode prog_1_method_32_code 39 = .ok (.ireturn, 1) := by decide +kernel
noncomputable def F_X11_weight (v1 : Int) (v2 : Int) (M : bM) : Option (Int) :=
  b_bind (F_X7_has v1 M) (fun x1 => if x1 = 0 then (some (-2)) else (b_bind (F_X11_isDay v2 M) (fun x3 => if x3 = 0 then (some (-2)) else (b_bind (F_X1_numberInForce v2 M) (fun x5 => b_bind (F_X7_weightBy v1 x5 M) (fun x6 => some x6))))))
theorem t_X11_weight {l : Launch} {E : bE} {Q : Int → Prop} {v1 : Int} {v2 : Int} {M : bM} (h : b_wp (F_X11_weight v1 v2 M) (Q)) : V l E xX11_weight (0, 0) 0 [(0, bR 0), (1, bI v1), (2, bI v2)] [] M (b_pIp M Q) := by
  unfold F_X11_weight at h
  refine v_aload_n (f := 0) 0 rfl dX11_weight_0 ?_
  refine v_getR (kf := 4) (kz := 4) rfl kd_0 rfl ⟨by decide, by decide⟩ rfl wf_11_42 dX11_weight_1 ?_
  refine v_iload_n (f := 1) 1 rfl dX11_weight_4 ?_
  refine v_cVIp (nA := 1) (As := [bI _]) (ix := 265) (cf_X7_has (b_wp_b h)) rfl kd_5 rfl rfl wc_X7_has wm_11_265 wi_X7_has ws_X7_has wn_7 ⟨by decide, by decide, by decide⟩ rfl ⟨by decide, by decide⟩ ⟨by decide, by decide⟩ (Nat.le_of_ble_eq_true rfl) dX11_weight_5 (fun x1 h => ?_)
  refine v_if_eq (tgt := 37) dX11_weight_8 (by decide) (fun c2 => ?_) (fun c2 => ?_)
  · replace h := b_wp_t c2 h
    refine v_bipush ⟨by decide, by decide⟩ (by decide) dX11_weight_37 ?_
    refine v_ireturn rfl dX11_weight_39 ⟨by decide, by decide⟩ ?_
    exact ⟨_, rfl, rfl, h⟩
  · replace h := b_wp_f c2 h
    refine v_iload_n (f := 2) 2 rfl dX11_weight_11 ?_
    refine v_cSIp (nA := 1) (As := [bI _]) (ix := 102) (cf_X11_isDay (b_wp_b h)) rfl wc_X11_isDay wm_11_102 wi_X11_isDay wn_11 ⟨by decide, by decide, by decide⟩ rfl ⟨by decide, by decide⟩ ⟨by decide, by decide⟩ (Nat.le_of_ble_eq_true rfl) dX11_weight_12 (fun x3 h => ?_)
    refine v_if_eq (tgt := 37) dX11_weight_15 (by decide) (fun c4 => ?_) (fun c4 => ?_)
    · replace h := b_wp_t c4 h
      refine v_bipush ⟨by decide, by decide⟩ (by decide) dX11_weight_37 ?_
      refine v_ireturn rfl dX11_weight_39 ⟨by decide, by decide⟩ ?_
      exact ⟨_, rfl, rfl, h⟩
    · replace h := b_wp_f c4 h
      refine v_aload_n (f := 0) 0 rfl dX11_weight_18 ?_
      refine v_getR (kf := 4) (kz := 4) rfl kd_0 rfl ⟨by decide, by decide⟩ rfl wf_11_42 dX11_weight_19 ?_
      refine v_iload_n (f := 1) 1 rfl dX11_weight_22 ?_
      refine v_aload_n (f := 0) 0 rfl dX11_weight_23 ?_
      refine v_getR (kf := 3) (kz := 3) rfl kd_0 rfl ⟨by decide, by decide⟩ rfl wf_11_35 dX11_weight_24 ?_
      refine v_iload_n (f := 2) 2 rfl dX11_weight_27 ?_
      refine v_cVIp (nA := 1) (As := [bI _]) (ix := 275) (cf_X1_numberInForce (b_wp_b h)) rfl kd_4 rfl rfl wc_X1_numberInForce wm_11_275 wi_X1_numberInForce ws_X1_numberInForce wn_1 ⟨by decide, by decide, by decide⟩ rfl ⟨by decide, by decide⟩ ⟨by decide, by decide⟩ (Nat.le_of_ble_eq_true rfl) dX11_weight_28 (fun x5 h => ?_)
      refine v_cVIp (nA := 2) (As := [bI _, bI _]) (ix := 278) (cf_X7_weightBy (b_wp_b h)) rfl kd_5 rfl rfl wc_X7_weightBy wm_11_278 wi_X7_weightBy ws_X7_weightBy wn_7 ⟨by decide, by decide, by decide⟩ rfl ⟨by decide, by decide⟩ ⟨by decide, by decide⟩ (Nat.le_of_ble_eq_true rfl) dX11_weight_31 (fun x6 h => ?_)
      refine v_goto (tgt := 39) dX11_weight_34 (by decide) ?_
      refine v_ireturn rfl dX11_weight_39 ⟨by decide, by decide⟩ ?_
      exact ⟨_, rfl, rfl, h⟩
theorem cf_X11_weight {l : Launch} {E : bE} {M : bM} {v1 : Int} {v2 : Int} {Q : Int → Prop} (h : b_wp (F_X11_weight v1 v2 M) Q) : b_C l E xX11_weight yX11_weight [bR 0, bI v1, bI v2] M (b_pIp M Q) := b_met (by decide) ⟨rfl, rfl⟩ (Nat.le_of_ble_eq_true rfl) (fun _ _ => t_X11_weight h)
abbrev xX7_saying : bX := ("BurntHall$Papers", prog_9_method_7_code, 3, (Option.some Jvm.ClassFile.FieldType.int), b_rm 2 0 0, 0, "saying")
abbrev yX7_saying : MethodName := ⟨"BurntHall$Papers", "saying", "(II)I"⟩
theorem dX7_saying_0 : decode prog_9_method_7_code 0 = .ok (.aload_n 0, 1) := by decide +kernel
theorem dX7_saying_1 : decode prog_9_method_7_code 1 = .ok (.iload_n 1, 1) := by decide +kernel
theorem dX7_saying_2 : decode prog_9_method_7_code 2 = .ok (.invokevirtual 105, 3) := by decide +kernel
theorem dX7_saying_5 : decode prog_9_method_7_code 5 = .ok (.ifCond .eq 25, 3) := by decide +kernel
theorem dX7_saying_8 : decode prog_9_method_7_code 8 = .ok (.iload_n 2, 1) := by decide +kernel
theorem dX7_saying_9 : decode prog_9_method_7_code 9 = .ok (.ifCond .lt 21, 3) := by decide +kernel
theorem dX7_saying_12 : decode prog_9_method_7_code 12 = .ok (.iload_n 2, 1) := by decide +kernel
theorem dX7_saying_13 : decode prog_9_method_7_code 13 = .ok (.iconst 3, 1) := by decide +kernel
theorem dX7_saying_14 : decode prog_9_method_7_code 14 = .ok (.if_icmp .ge 16, 3) := by decide +kernel
theorem dX7_saying_17 : decode prog_9_method_7_code 17 = .ok (.aload_n 0, 1) := by decide +kernel
theorem dX7_saying_18 : decode prog_9_method_7_code 18 = .ok (.getfield 33, 3) := by decide +kernel
theorem dX7_saying_21 : decode prog_9_method_7_code 21 = .ok (.iload_n 1, 1) := by decide +kernel
theorem dX7_saying_22 : decode prog_9_method_7_code 22 = .ok (.iconst 3, 1) := by decide +kernel
theorem dX7_saying_23 : decode prog_9_method_7_code 23 = .ok (.imul, 1) := by decide +kernel
theorem dX7_saying_24 : decode prog_9_method_7_code 24 = .ok (.iload_n 2, 1) := by decide +kernel
theorem dX7_saying_25 : decode prog_9_method_7_code 25 = .ok (.iadd, 1) := by decide +kernel
theorem dX7_saying_26 : decode prog_9_method_7_code 26 = .ok (.iaload, 1) := by decide +kernel
theorem dX7_saying_27 : decode prog_9_method_7_code 27 = .ok (.goto 4, 3) := by decide +kernel
theorem dX7_saying_30 : decode prog_9_method_7_code 30 = .ok (.iconst (-1), 1) := by decide +kernel
theorem dX7_saying_31 : decode prog_9_method_7_code 31 = .ok (.ireturn, 1) := by decide +kernel
noncomputable def F_X7_saying (v1 : Int) (v2 : Int) (M : bM) : Option (Int) :=
  b_bind (F_X7_has v1 M) (fun x1 => if x1 = 0 then (some (-1)) else (if v2 < 0 then (some (-1)) else (if 3 ≤ v2 then (some (-1)) else (b_g ((b_i32 (v1 * 3)) ∧ (b_i32 ((v1 * 3) + v2)) ∧ (0 ≤ ((v1 * 3) + v2) ∧ ((v1 * 3) + v2) < 360)) (some (M 115 ((v1 * 3) + v2)))))))
theorem t_X7_saying {l : Launch} {E : bE} {Q : Int → Prop} {v1 : Int} {v2 : Int} {M : bM} (h : b_wp (F_X7_saying v1 v2 M) (Q)) : V l E xX7_saying (0, 0) 0 [(0, bR 5), (1, bI v1), (2, bI v2)] [] M (b_pIp M Q) := by
  unfold F_X7_saying at h
  refine v_aload_n (f := 0) 0 rfl dX7_saying_0 ?_
  refine v_iload_n (f := 1) 1 rfl dX7_saying_1 ?_
  refine v_cVIp (nA := 1) (As := [bI _]) (ix := 105) (cf_X7_has (b_wp_b h)) rfl kd_5 rfl rfl wc_X7_has wm_7_105 wi_X7_has ws_X7_has wn_7 ⟨by decide, by decide, by decide⟩ rfl ⟨by decide, by decide⟩ ⟨by decide, by decide⟩ (Nat.le_of_ble_eq_true rfl) dX7_saying_2 (fun x1 h => ?_)
  refine v_if_eq (tgt := 30) dX7_saying_5 (by decide) (fun c2 => ?_) (fun c2 => ?_)
  · replace h := b_wp_t c2 h
    refine v_iconst ⟨by decide, by decide⟩ dX7_saying_30 ?_
    refine v_ireturn rfl dX7_saying_31 ⟨by decide, by decide⟩ ?_
    exact ⟨_, rfl, rfl, h⟩
  · replace h := b_wp_f c2 h
    refine v_iload_n (f := 2) 2 rfl dX7_saying_8 ?_
    refine v_if_lt (tgt := 30) dX7_saying_9 (by decide) (fun c3 => ?_) (fun c3 => ?_)
    · replace h := b_wp_t c3 h
      refine v_iconst ⟨by decide, by decide⟩ dX7_saying_30 ?_
      refine v_ireturn rfl dX7_saying_31 ⟨by decide, by decide⟩ ?_
      exact ⟨_, rfl, rfl, h⟩
    · replace h := b_wp_f c3 h
      refine v_iload_n (f := 2) 2 rfl dX7_saying_12 ?_
      refine v_iconst ⟨by decide, by decide⟩ dX7_saying_13 ?_
      refine v_icmp_ge (tgt := 30) dX7_saying_14 (by decide) (fun c4 => ?_) (fun c4 => ?_)
      · replace h := b_wp_t c4 h
        refine v_iconst ⟨by decide, by decide⟩ dX7_saying_30 ?_
        refine v_ireturn rfl dX7_saying_31 ⟨by decide, by decide⟩ ?_
        exact ⟨_, rfl, rfl, h⟩
      · replace h := b_wp_f c4 h
        obtain ⟨⟨g5, g6, g7⟩, h⟩ := b_wp_g h
        refine v_aload_n (f := 0) 0 rfl dX7_saying_17 ?_
        refine v_getR (kf := 7) (kz := 7) rfl kd_5 rfl ⟨by decide, by decide⟩ rfl wf_7_33 dX7_saying_18 ?_
        refine v_iload_n (f := 1) 1 rfl dX7_saying_21 ?_
        refine v_iconst ⟨by decide, by decide⟩ dX7_saying_22 ?_
        refine v_imulN g5 dX7_saying_23 ?_
        refine v_iload_n (f := 2) 2 rfl dX7_saying_24 ?_
        refine v_iaddN g6 dX7_saying_25 ?_
        refine v_iaload kd_115 g7 (by decide) dX7_saying_26 ?_
        refine v_goto (tgt := 31) dX7_saying_27 (by decide) ?_
        refine v_ireturn rfl dX7_saying_31 ⟨by decide, by decide⟩ ?_
        exact ⟨_, rfl, rfl, h⟩
theorem cf_X7_saying {l : Launch} {E : bE} {M : bM} {v1 : Int} {v2 : Int} {Q : Int → Prop} (h : b_wp (F_X7_saying v1 v2 M) Q) : b_C l E xX7_saying yX7_saying [bR 5, bI v1, bI v2] M (b_pIp M Q) := b_met (by decide) ⟨rfl, rfl⟩ (Nat.le_of_ble_eq_true rfl) (fun _ _ => t_X7_saying h)
abbrev xX8_isDeadBy : bX := ("BurntHall$People", prog_10_method_10_code, 3, (Option.some Jvm.ClassFile.FieldType.boolean), b_rm 2 0 0, 0, "isDeadBy")
abbrev yX8_isDeadBy : MethodName := ⟨"BurntHall$People", "isDeadBy", "(II)Z"⟩
theorem dX8_isDeadBy_0 : decode prog_10_method_10_code 0 = .ok (.aload_n 0, 1) := by decide +kernel
theorem dX8_isDeadBy_1 : decode prog_10_method_10_code 1 = .ok (.iload_n 1, 1) := by decide +kernel
theorem dX8_isDeadBy_2 : decode prog_10_method_10_code 2 = .ok (.invokevirtual 73, 3) := by decide +kernel
theorem dX8_isDeadBy_5 : decode prog_10_method_10_code 5 = .ok (.ifCond .eq 37, 3) := by decide +kernel
theorem dX8_isDeadBy_8 : decode prog_10_method_10_code 8 = .ok (.aload_n 0, 1) := by decide +kernel
theorem dX8_isDeadBy_9 : decode prog_10_method_10_code 9 = .ok (.getfield 34, 3) := by decide +kernel
theorem dX8_isDeadBy_12 : decode prog_10_method_10_code 12 = .ok (.aload_n 0, 1) := by decide +kernel
theorem dX8_isDeadBy_13 : decode prog_10_method_10_code 13 = .ok (.getfield 31, 3) := by decide +kernel
theorem dX8_isDeadBy_16 : decode prog_10_method_10_code 16 = .ok (.iload_n 1, 1) := by decide +kernel
theorem dX8_isDeadBy_17 : decode prog_10_method_10_code 17 = .ok (.iaload, 1) := by decide +kernel
theorem dX8_isDeadBy_18 : decode prog_10_method_10_code 18 = .ok (.iaload, 1) := by decide +kernel
theorem dX8_isDeadBy_19 : decode prog_10_method_10_code 19 = .ok (.iconst (-1), 1) := by decide +kernel
theorem dX8_isDeadBy_20 : decode prog_10_method_10_code 20 = .ok (.if_icmp .eq 22, 3) := by decide +kernel
theorem dX8_isDeadBy_23 : decode prog_10_method_10_code 23 = .ok (.aload_n 0, 1) := by decide +kernel
theorem dX8_isDeadBy_24 : decode prog_10_method_10_code 24 = .ok (.getfield 34, 3) := by decide +kernel
theorem dX8_isDeadBy_27 : decode prog_10_method_10_code 27 = .ok (.aload_n 0, 1) := by decide +kernel
theorem dX8_isDeadBy_28 : decode prog_10_method_10_code 28 = .ok (.getfield 31, 3) := by decide +kernel
theorem dX8_isDeadBy_31 : decode prog_10_method_10_code 31 = .ok (.iload_n 1, 1) := by decide +kernel
theorem dX8_isDeadBy_32 : decode prog_10_method_10_code 32 = .ok (.iaload, 1) := by decide +kernel
theorem dX8_isDeadBy_33 : decode prog_10_method_10_code 33 = .ok (.iaload, 1) := by decide +kernel
theorem dX8_isDeadBy_34 : decode prog_10_method_10_code 34 = .ok (.iload_n 2, 1) := by decide +kernel
theorem dX8_isDeadBy_35 : decode prog_10_method_10_code 35 = .ok (.if_icmp .gt 7, 3) := by decide +kernel
theorem dX8_isDeadBy_38 : decode prog_10_method_10_code 38 = .ok (.iconst 1, 1) := by decide +kernel
theorem dX8_isDeadBy_39 : decode prog_10_method_10_code 39 = .ok (.goto 4, 3) := by decide +kernel
theorem dX8_isDeadBy_42 : decode prog_10_method_10_code 42 = .ok (.iconst 0, 1) := by decide +kernel
theorem dX8_isDeadBy_43 : decode prog_10_method_10_code 43 = .ok (.ireturn, 1) := by decide +kernel
noncomputable def F_X8_isDeadBy (v1 : Int) (v2 : Int) (M : bM) : Option (Int) :=
  b_bind (F_X8_has v1 M) (fun x1 => if x1 = 0 then (some 0) else (b_g ((0 ≤ v1 ∧ v1 < 80) ∧ (0 ≤ (M 81 v1) ∧ (M 81 v1) < 80)) (if (M 82 (M 81 v1)) = (-1) then (some 0) else (b_g ((0 ≤ v1 ∧ v1 < 80) ∧ (0 ≤ (M 81 v1) ∧ (M 81 v1) < 80)) (if v2 < (M 82 (M 81 v1)) then (some 0) else (some 1))))))
theorem t_X8_isDeadBy {l : Launch} {E : bE} {Q : Int → Prop} {v1 : Int} {v2 : Int} {M : bM} (h : b_wp (F_X8_isDeadBy v1 v2 M) (Q)) : V l E xX8_isDeadBy (0, 0) 0 [(0, bR 2), (1, bI v1), (2, bI v2)] [] M (b_pIp M Q) := by
  unfold F_X8_isDeadBy at h
  refine v_aload_n (f := 0) 0 rfl dX8_isDeadBy_0 ?_
  refine v_iload_n (f := 1) 1 rfl dX8_isDeadBy_1 ?_
  refine v_cVIp (nA := 1) (As := [bI _]) (ix := 73) (cf_X8_has (b_wp_b h)) rfl kd_2 rfl rfl wc_X8_has wm_8_73 wi_X8_has ws_X8_has wn_8 ⟨by decide, by decide, by decide⟩ rfl ⟨by decide, by decide⟩ ⟨by decide, by decide⟩ (Nat.le_of_ble_eq_true rfl) dX8_isDeadBy_2 (fun x1 h => ?_)
  refine v_if_eq (tgt := 42) dX8_isDeadBy_5 (by decide) (fun c2 => ?_) (fun c2 => ?_)
  · replace h := b_wp_t c2 h
    refine v_iconst ⟨by decide, by decide⟩ dX8_isDeadBy_42 ?_
    refine v_zreturn rfl (Or.inl rfl) dX8_isDeadBy_43 ⟨by decide, by decide⟩ ?_
    exact ⟨_, rfl, rfl, h⟩
  · replace h := b_wp_f c2 h
    obtain ⟨⟨g3, g4⟩, h⟩ := b_wp_g h
    refine v_aload_n (f := 0) 0 rfl dX8_isDeadBy_8 ?_
    refine v_getR (kf := 11) (kz := 11) rfl kd_2 rfl ⟨by decide, by decide⟩ rfl wf_8_34 dX8_isDeadBy_9 ?_
    refine v_aload_n (f := 0) 0 rfl dX8_isDeadBy_12 ?_
    refine v_getR (kf := 10) (kz := 10) rfl kd_2 rfl ⟨by decide, by decide⟩ rfl wf_8_31 dX8_isDeadBy_13 ?_
    refine v_iload_n (f := 1) 1 rfl dX8_isDeadBy_16 ?_
    refine v_iaload kd_81 g3 (by decide) dX8_isDeadBy_17 ?_
    refine v_iaload kd_82 g4 (by decide) dX8_isDeadBy_18 ?_
    refine v_iconst ⟨by decide, by decide⟩ dX8_isDeadBy_19 ?_
    refine v_icmp_eq (tgt := 42) dX8_isDeadBy_20 (by decide) (fun c5 => ?_) (fun c5 => ?_)
    · replace h := b_wp_t c5 h
      refine v_iconst ⟨by decide, by decide⟩ dX8_isDeadBy_42 ?_
      refine v_zreturn rfl (Or.inl rfl) dX8_isDeadBy_43 ⟨by decide, by decide⟩ ?_
      exact ⟨_, rfl, rfl, h⟩
    · replace h := b_wp_f c5 h
      obtain ⟨⟨g6, g7⟩, h⟩ := b_wp_g h
      refine v_aload_n (f := 0) 0 rfl dX8_isDeadBy_23 ?_
      refine v_getR (kf := 11) (kz := 11) rfl kd_2 rfl ⟨by decide, by decide⟩ rfl wf_8_34 dX8_isDeadBy_24 ?_
      refine v_aload_n (f := 0) 0 rfl dX8_isDeadBy_27 ?_
      refine v_getR (kf := 10) (kz := 10) rfl kd_2 rfl ⟨by decide, by decide⟩ rfl wf_8_31 dX8_isDeadBy_28 ?_
      refine v_iload_n (f := 1) 1 rfl dX8_isDeadBy_31 ?_
      refine v_iaload kd_81 g6 (by decide) dX8_isDeadBy_32 ?_
      refine v_iaload kd_82 g7 (by decide) dX8_isDeadBy_33 ?_
      refine v_iload_n (f := 2) 2 rfl dX8_isDeadBy_34 ?_
      refine v_icmp_gt (tgt := 42) dX8_isDeadBy_35 (by decide) (fun c8 => ?_) (fun c8 => ?_)
      · replace h := b_wp_t c8 h
        refine v_iconst ⟨by decide, by decide⟩ dX8_isDeadBy_42 ?_
        refine v_zreturn rfl (Or.inl rfl) dX8_isDeadBy_43 ⟨by decide, by decide⟩ ?_
        exact ⟨_, rfl, rfl, h⟩
      · replace h := b_wp_f c8 h
        refine v_iconst ⟨by decide, by decide⟩ dX8_isDeadBy_38 ?_
        refine v_goto (tgt := 43) dX8_isDeadBy_39 (by decide) ?_
        refine v_zreturn rfl (Or.inr rfl) dX8_isDeadBy_43 ⟨by decide, by decide⟩ ?_
        exact ⟨_, rfl, rfl, h⟩
theorem cf_X8_isDeadBy {l : Launch} {E : bE} {M : bM} {v1 : Int} {v2 : Int} {Q : Int → Prop} (h : b_wp (F_X8_isDeadBy v1 v2 M) Q) : b_C l E xX8_isDeadBy yX8_isDeadBy [bR 2, bI v1, bI v2] M (b_pIp M Q) := b_met (by decide) ⟨rfl, rfl⟩ (Nat.le_of_ble_eq_true rfl) (fun _ _ => t_X8_isDeadBy h)
abbrev xX4_livesWithin : bX := ("BurntHall$Evidence", prog_6_method_9_code, 4, (Option.some Jvm.ClassFile.FieldType.boolean), b_rm 3 0 0, 0, "livesWithin")
abbrev yX4_livesWithin : MethodName := ⟨"BurntHall$Evidence", "livesWithin", "(III)Z"⟩
theorem dX4_livesWithin_0 : decode prog_6_method_9_code 0 = .ok (.aload_n 0, 1) := by decide +kernel
theorem dX4_livesWithin_1 : decode prog_6_method_9_code 1 = .ok (.getfield 27, 3) := by decide +kernel
theorem dX4_livesWithin_4 : decode prog_6_method_9_code 4 = .ok (.iload_n 1, 1) := by decide +kernel
theorem dX4_livesWithin_5 : decode prog_6_method_9_code 5 = .ok (.invokevirtual 132, 3) := by decide +kernel
theorem dX4_livesWithin_8 : decode prog_6_method_9_code 8 = .ok (.ifCond .eq 30, 3) := by decide +kernel
theorem dX4_livesWithin_11 : decode prog_6_method_9_code 11 = .ok (.aload_n 0, 1) := by decide +kernel
theorem dX4_livesWithin_12 : decode prog_6_method_9_code 12 = .ok (.getfield 27, 3) := by decide +kernel
theorem dX4_livesWithin_15 : decode prog_6_method_9_code 15 = .ok (.getfield 136, 3) := by decide +kernel
theorem dX4_livesWithin_18 : decode prog_6_method_9_code 18 = .ok (.iload_n 1, 1) := by decide +kernel
theorem dX4_livesWithin_19 : decode prog_6_method_9_code 19 = .ok (.iaload, 1) := by decide +kernel
theorem dX4_livesWithin_20 : decode prog_6_method_9_code 20 = .ok (.iload_n 3, 1) := by decide +kernel
theorem dX4_livesWithin_21 : decode prog_6_method_9_code 21 = .ok (.if_icmp .gt 21, 3) := by decide +kernel
theorem dX4_livesWithin_24 : decode prog_6_method_9_code 24 = .ok (.aload_n 0, 1) := by decide +kernel
theorem dX4_livesWithin_25 : decode prog_6_method_9_code 25 = .ok (.getfield 27, 3) := by decide +kernel
theorem dX4_livesWithin_28 : decode prog_6_method_9_code 28 = .ok (.iload_n 1, 1) := by decide +kernel
theorem dX4_livesWithin_29 : decode prog_6_method_9_code 29 = .ok (.iload_n 2, 1) := by decide +kernel
theorem dX4_livesWithin_30 : decode prog_6_method_9_code 30 = .ok (.iconst 1, 1) := by decide +kernel
theorem dX4_livesWithin_31 : decode prog_6_method_9_code 31 = .ok (.isub, 1) := by decide +kernel
theorem dX4_livesWithin_32 : decode prog_6_method_9_code 32 = .ok (.invokevirtual 137, 3) := by decide +kernel
theorem dX4_livesWithin_35 : decode prog_6_method_9_code 35 = .ok (.ifCond .ne 7, 3) := by decide +kernel
theorem dX4_livesWithin_38 : decode prog_6_method_9_code 38 = .ok (.iconst 1, 1) := by decide +kernel
theorem dX4_livesWithin_39 : decode prog_6_method_9_code 39 = .ok (.goto 4, 3) := by decide +kernel
theorem dX4_livesWithin_42 : decode prog_6_method_9_code 42 = .ok (.iconst 0, 1) := by decide +kernel
theorem dX4_livesWithin_43 : decode prog_6_method_9_code 43 = .ok (.ireturn, 1) := by decide +kernel
noncomputable def F_X4_livesWithin (v1 : Int) (v2 : Int) (v3 : Int) (M : bM) : Option (Int) :=
  b_bind (F_X8_has v1 M) (fun x1 => if x1 = 0 then (some 1) else (b_g (0 ≤ v1 ∧ v1 < 80) (if v3 < (M 76 v1) then (some 0) else (b_g (b_i32 (v2 - 1)) (b_bind (F_X8_isDeadBy v1 (v2 - 1) M) (fun x6 => if x6 = 0 then (some 1) else (some 0)))))))
theorem t_X4_livesWithin {l : Launch} {E : bE} {Q : Int → Prop} {v1 : Int} {v2 : Int} {v3 : Int} {M : bM} (h : b_wp (F_X4_livesWithin v1 v2 v3 M) (Q)) : V l E xX4_livesWithin (0, 0) 0 [(0, bR 6), (1, bI v1), (2, bI v2), (3, bI v3)] [] M (b_pIp M Q) := by
  unfold F_X4_livesWithin at h
  refine v_aload_n (f := 0) 0 rfl dX4_livesWithin_0 ?_
  refine v_getR (kf := 1) (kz := 1) rfl kd_6 rfl ⟨by decide, by decide⟩ rfl wf_4_27 dX4_livesWithin_1 ?_
  refine v_iload_n (f := 1) 1 rfl dX4_livesWithin_4 ?_
  refine v_cVIp (nA := 1) (As := [bI _]) (ix := 132) (cf_X8_has (b_wp_b h)) rfl kd_2 rfl rfl wc_X8_has wm_4_132 wi_X8_has ws_X8_has wn_8 ⟨by decide, by decide, by decide⟩ rfl ⟨by decide, by decide⟩ ⟨by decide, by decide⟩ (Nat.le_of_ble_eq_true rfl) dX4_livesWithin_5 (fun x1 h => ?_)
  refine v_if_eq (tgt := 38) dX4_livesWithin_8 (by decide) (fun c2 => ?_) (fun c2 => ?_)
  · replace h := b_wp_t c2 h
    refine v_iconst ⟨by decide, by decide⟩ dX4_livesWithin_38 ?_
    refine v_goto (tgt := 43) dX4_livesWithin_39 (by decide) ?_
    refine v_zreturn rfl (Or.inr rfl) dX4_livesWithin_43 ⟨by decide, by decide⟩ ?_
    exact ⟨_, rfl, rfl, h⟩
  · replace h := b_wp_f c2 h
    obtain ⟨g3, h⟩ := b_wp_g h
    refine v_aload_n (f := 0) 0 rfl dX4_livesWithin_11 ?_
    refine v_getR (kf := 1) (kz := 1) rfl kd_6 rfl ⟨by decide, by decide⟩ rfl wf_4_27 dX4_livesWithin_12 ?_
    refine v_getR (kf := 2) (kz := 2) rfl kd_2 rfl ⟨by decide, by decide⟩ rfl wf_4_136 dX4_livesWithin_15 ?_
    refine v_iload_n (f := 1) 1 rfl dX4_livesWithin_18 ?_
    refine v_iaload kd_76 g3 (by decide) dX4_livesWithin_19 ?_
    refine v_iload_n (f := 3) 3 rfl dX4_livesWithin_20 ?_
    refine v_icmp_gt (tgt := 42) dX4_livesWithin_21 (by decide) (fun c4 => ?_) (fun c4 => ?_)
    · replace h := b_wp_t c4 h
      refine v_iconst ⟨by decide, by decide⟩ dX4_livesWithin_42 ?_
      refine v_zreturn rfl (Or.inl rfl) dX4_livesWithin_43 ⟨by decide, by decide⟩ ?_
      exact ⟨_, rfl, rfl, h⟩
    · replace h := b_wp_f c4 h
      obtain ⟨g5, h⟩ := b_wp_g h
      refine v_aload_n (f := 0) 0 rfl dX4_livesWithin_24 ?_
      refine v_getR (kf := 1) (kz := 1) rfl kd_6 rfl ⟨by decide, by decide⟩ rfl wf_4_27 dX4_livesWithin_25 ?_
      refine v_iload_n (f := 1) 1 rfl dX4_livesWithin_28 ?_
      refine v_iload_n (f := 2) 2 rfl dX4_livesWithin_29 ?_
      refine v_iconst ⟨by decide, by decide⟩ dX4_livesWithin_30 ?_
      refine v_isubN g5 dX4_livesWithin_31 ?_
      refine v_cVIp (nA := 2) (As := [bI _, bI _]) (ix := 137) (cf_X8_isDeadBy (b_wp_b h)) rfl kd_2 rfl rfl wc_X8_isDeadBy wm_4_137 wi_X8_isDeadBy ws_X8_isDeadBy wn_8 ⟨by decide, by decide, by decide⟩ rfl ⟨by decide, by decide⟩ ⟨by decide, by decide⟩ (Nat.le_of_ble_eq_true rfl) dX4_livesWithin_32 (fun x6 h => ?_)
      refine v_if_ne (tgt := 42) dX4_livesWithin_35 (by decide) (fun c7 => ?_) (fun c7 => ?_)
      · replace h := b_wp_f c7 h
        refine v_iconst ⟨by decide, by decide⟩ dX4_livesWithin_42 ?_
        refine v_zreturn rfl (Or.inl rfl) dX4_livesWithin_43 ⟨by decide, by decide⟩ ?_
        exact ⟨_, rfl, rfl, h⟩
      · replace h := b_wp_t c7 h
        refine v_iconst ⟨by decide, by decide⟩ dX4_livesWithin_38 ?_
        refine v_goto (tgt := 43) dX4_livesWithin_39 (by decide) ?_
        refine v_zreturn rfl (Or.inr rfl) dX4_livesWithin_43 ⟨by decide, by decide⟩ ?_
        exact ⟨_, rfl, rfl, h⟩
theorem cf_X4_livesWithin {l : Launch} {E : bE} {M : bM} {v1 : Int} {v2 : Int} {v3 : Int} {Q : Int → Prop} (h : b_wp (F_X4_livesWithin v1 v2 v3 M) Q) : b_C l E xX4_livesWithin yX4_livesWithin [bR 6, bI v1, bI v2, bI v3] M (b_pIp M Q) := b_met (by decide) ⟨rfl, rfl⟩ (Nat.le_of_ble_eq_true rfl) (fun _ _ => t_X4_livesWithin h)
abbrev xX4_isPageFull : bX := ("BurntHall$Evidence", prog_6_method_10_code, 5, (Option.some Jvm.ClassFile.FieldType.boolean), b_rm 1 0 0, 0, "isPageFull")
abbrev yX4_isPageFull : MethodName := ⟨"BurntHall$Evidence", "isPageFull", "(II)Z"⟩
theorem dX4_isPageFull_0 : decode prog_6_method_10_code 0 = .ok (.iconst 0, 1) := by decide +kernel
theorem dX4_isPageFull_1 : decode prog_6_method_10_code 1 = .ok (.istore_n 3, 1) := by decide +kernel
theorem dX4_isPageFull_2 : decode prog_6_method_10_code 2 = .ok (.iconst 0, 1) := by decide +kernel
theorem dX4_isPageFull_3 : decode prog_6_method_10_code 3 = .ok (.istore 4, 2) := by decide +kernel
theorem dX4_isPageFull_5 : decode prog_6_method_10_code 5 = .ok (.iload 4, 2) := by decide +kernel
theorem dX4_isPageFull_7 : decode prog_6_method_10_code 7 = .ok (.iload_n 1, 1) := by decide +kernel
theorem dX4_isPageFull_8 : decode prog_6_method_10_code 8 = .ok (.if_icmp .ge 62, 3) := by decide +kernel
theorem dX4_isPageFull_11 : decode prog_6_method_10_code 11 = .ok (.aload_n 0, 1) := by decide +kernel
theorem dX4_isPageFull_12 : decode prog_6_method_10_code 12 = .ok (.getfield 35, 3) := by decide +kernel
theorem dX4_isPageFull_15 : decode prog_6_method_10_code 15 = .ok (.getfield 104, 3) := by decide +kernel
theorem dX4_isPageFull_18 : decode prog_6_method_10_code 18 = .ok (.iload 4, 2) := by decide +kernel
theorem dX4_isPageFull_20 : decode prog_6_method_10_code 20 = .ok (.iaload, 1) := by decide +kernel
theorem dX4_isPageFull_21 : decode prog_6_method_10_code 21 = .ok (.iconst (-1), 1) := by decide +kernel
theorem dX4_isPageFull_22 : decode prog_6_method_10_code 22 = .ok (.if_icmp .eq 42, 3) := by decide +kernel
theorem dX4_isPageFull_25 : decode prog_6_method_10_code 25 = .ok (.aload_n 0, 1) := by decide +kernel
theorem dX4_isPageFull_26 : decode prog_6_method_10_code 26 = .ok (.getfield 35, 3) := by decide +kernel
theorem dX4_isPageFull_29 : decode prog_6_method_10_code 29 = .ok (.getfield 140, 3) := by decide +kernel
theorem dX4_isPageFull_32 : decode prog_6_method_10_code 32 = .ok (.iload 4, 2) := by decide +kernel
theorem dX4_isPageFull_34 : decode prog_6_method_10_code 34 = .ok (.iaload, 1) := by decide +kernel
theorem dX4_isPageFull_35 : decode prog_6_method_10_code 35 = .ok (.aload_n 0, 1) := by decide +kernel
theorem dX4_isPageFull_36 : decode prog_6_method_10_code 36 = .ok (.getfield 35, 3) := by decide +kernel
theorem dX4_isPageFull_39 : decode prog_6_method_10_code 39 = .ok (.getfield 140, 3) := by decide +kernel
theorem dX4_isPageFull_42 : decode prog_6_method_10_code 42 = .ok (.iload_n 1, 1) := by decide +kernel
theorem dX4_isPageFull_43 : decode prog_6_method_10_code 43 = .ok (.iaload, 1) := by decide +kernel
theorem dX4_isPageFull_44 : decode prog_6_method_10_code 44 = .ok (.if_icmp .ne 20, 3) := by decide +kernel
theorem dX4_isPageFull_47 : decode prog_6_method_10_code 47 = .ok (.aload_n 0, 1) := by decide +kernel
theorem dX4_isPageFull_48 : decode prog_6_method_10_code 48 = .ok (.getfield 35, 3) := by decide +kernel
theorem dX4_isPageFull_51 : decode prog_6_method_10_code 51 = .ok (.getfield 76, 3) := by decide +kernel
theorem dX4_isPageFull_54 : decode prog_6_method_10_code 54 = .ok (.iload 4, 2) := by decide +kernel
theorem dX4_isPageFull_56 : decode prog_6_method_10_code 56 = .ok (.iaload, 1) := by decide +kernel
theorem dX4_isPageFull_57 : decode prog_6_method_10_code 57 = .ok (.iload_n 2, 1) := by decide +kernel
theorem dX4_isPageFull_58 : decode prog_6_method_10_code 58 = .ok (.if_icmp .gt 6, 3) := by decide +kernel
theorem dX4_isPageFull_61 : decode prog_6_method_10_code 61 = .ok (.iinc 3 1, 3) := by decide +kernel
theorem dX4_isPageFull_64 : decode prog_6_method_10_code 64 = .ok (.iinc 4 1, 3) := by decide +kernel
theorem dX4_isPageFull_67 : decode prog_6_method_10_code 67 = .ok (.goto (-62), 3) := by decide +kernel
theorem dX4_isPageFull_70 : decode prog_6_method_10_code 70 = .ok (.iload_n 3, 1) := by decide +kernel
theorem dX4_isPageFull_71 : decode prog_6_method_10_code 71 = .ok (.aload_n 0, 1) := by decide +kernel
theorem dX4_isPageFull_72 : decode prog_6_method_10_code 72 = .ok (.getfield 35, 3) := by decide +kernel
theorem dX4_isPageFull_75 : decode prog_6_method_10_code 75 = .ok (.getfield 143, 3) := by decide +kernel
theorem dX4_isPageFull_78 : decode prog_6_method_10_code 78 = .ok (.if_icmp .lt 7, 3) := by decide +kernel
theorem dX4_isPageFull_81 : decode prog_6_method_10_code 81 = .ok (.iconst 1, 1) := by decide +kernel
theorem dX4_isPageFull_82 : decode prog_6_method_10_code 82 = .ok (.goto 4, 3) := by decide +kernel
theorem dX4_isPageFull_85 : decode prog_6_method_10_code 85 = .ok (.iconst 0, 1) := by decide +kernel
theorem dX4_isPageFull_86 : decode prog_6_method_10_code 86 = .ok (.ireturn, 1) := by decide +kernel
abbrev A_X4_isPageFull_5 (l : Launch) (E : bE) (Q : Int → Prop) (v1 : Int) (v2 : Int) (M : bM) : (Int × Int) → Prop := (fun t : Int × Int => V l E xX4_isPageFull (0, 0) 5 [(0, bR 6), (1, bI v1), (2, bI v2), (3, bI (t.1)), (4, bI (t.2))] [] M (b_pIp M Q))
abbrev X_X4_isPageFull_5 (l : Launch) (E : bE) (Q : Int → Prop) (v1 : Int) (v2 : Int) (M : bM) : (Int) → Prop := (fun t : Int => V l E xX4_isPageFull (0, 0) 70 [(0, bR 6), (3, bI t)] [] M (b_pIp M Q))
noncomputable def F_X4_isPageFull_s5 (v1 : Int) (v2 : Int) (v3 : Int) (v4 : Int) (M : bM) : Option ((Int × Int) ⊕ (Int)) :=
  if v1 ≤ v4 then (some (.inr (v3))) else (b_g (0 ≤ v4 ∧ v4 < 120) (if (M 116 v4) = (-1) then (b_g (b_i32 (v4 + 1)) (some (.inl (v3, (v4 + 1))))) else (b_g ((0 ≤ v4 ∧ v4 < 120) ∧ (0 ≤ v1 ∧ v1 < 120)) (if (M 118 v4) = (M 118 v1) then (b_g (0 ≤ v4 ∧ v4 < 120) (if v2 < (M 112 v4) then (b_g (b_i32 (v4 + 1)) (some (.inl (v3, (v4 + 1))))) else (b_g ((b_i32 (v3 + 1)) ∧ (b_i32 (v4 + 1))) (some (.inl ((v3 + 1), (v4 + 1))))))) else (b_g (b_i32 (v4 + 1)) (some (.inl (v3, (v4 + 1)))))))))
theorem t_X4_isPageFull_s5 {l : Launch} {E : bE} {Q : Int → Prop} {v1 : Int} {v2 : Int} {v3 : Int} {v4 : Int} {M : bM} (h : b_wp (F_X4_isPageFull_s5 v1 v2 v3 v4 M) (Sum.elim (A_X4_isPageFull_5 l E Q v1 v2 M) (X_X4_isPageFull_5 l E Q v1 v2 M))) : V l E xX4_isPageFull (0, 0) 5 [(0, bR 6), (1, bI v1), (2, bI v2), (3, bI v3), (4, bI v4)] [] M (b_pIp M Q) := by
  unfold F_X4_isPageFull_s5 at h
  refine v_iload (i := 4) 4 rfl dX4_isPageFull_5 ?_
  refine v_iload_n (f := 1) 1 rfl dX4_isPageFull_7 ?_
  refine v_icmp_ge (tgt := 70) dX4_isPageFull_8 (by decide) (fun c1 => ?_) (fun c1 => ?_)
  · replace h := b_wp_t c1 h
    refine v_sub (ls2 := [(0, bR _), (3, bI _)]) [0, 3] rfl ?_
    exact h
  · replace h := b_wp_f c1 h
    obtain ⟨g2, h⟩ := b_wp_g h
    refine v_aload_n (f := 0) 0 rfl dX4_isPageFull_11 ?_
    refine v_getR (kf := 3) (kz := 3) rfl kd_6 rfl ⟨by decide, by decide⟩ rfl wf_4_35 dX4_isPageFull_12 ?_
    refine v_getR (kf := 8) (kz := 8) rfl kd_5 rfl ⟨by decide, by decide⟩ rfl wf_4_104 dX4_isPageFull_15 ?_
    refine v_iload (i := 4) 4 rfl dX4_isPageFull_18 ?_
    refine v_iaload kd_116 g2 (by decide) dX4_isPageFull_20 ?_
    refine v_iconst ⟨by decide, by decide⟩ dX4_isPageFull_21 ?_
    refine v_icmp_eq (tgt := 64) dX4_isPageFull_22 (by decide) (fun c3 => ?_) (fun c3 => ?_)
    · replace h := b_wp_t c3 h
      obtain ⟨g4, h⟩ := b_wp_g h
      refine v_iincN (ls' := [(4, bI _), (0, bR _), (1, bI _), (2, bI _), (3, bI _)]) 4 rfl (by decide) g4 dX4_isPageFull_64 rfl ?_
      refine v_goto (tgt := 5) dX4_isPageFull_67 (by decide) ?_
      refine v_sub (ls2 := [(0, bR _), (1, bI _), (2, bI _), (3, bI _), (4, bI _)]) [1, 2, 3, 4, 0] rfl ?_
      exact h
    · replace h := b_wp_f c3 h
      obtain ⟨⟨g5, g6⟩, h⟩ := b_wp_g h
      refine v_aload_n (f := 0) 0 rfl dX4_isPageFull_25 ?_
      refine v_getR (kf := 3) (kz := 3) rfl kd_6 rfl ⟨by decide, by decide⟩ rfl wf_4_35 dX4_isPageFull_26 ?_
      refine v_getR (kf := 10) (kz := 10) rfl kd_5 rfl ⟨by decide, by decide⟩ rfl wf_4_140 dX4_isPageFull_29 ?_
      refine v_iload (i := 4) 4 rfl dX4_isPageFull_32 ?_
      refine v_iaload kd_118 g5 (by decide) dX4_isPageFull_34 ?_
      refine v_aload_n (f := 0) 0 rfl dX4_isPageFull_35 ?_
      refine v_getR (kf := 3) (kz := 3) rfl kd_6 rfl ⟨by decide, by decide⟩ rfl wf_4_35 dX4_isPageFull_36 ?_
      refine v_getR (kf := 10) (kz := 10) rfl kd_5 rfl ⟨by decide, by decide⟩ rfl wf_4_140 dX4_isPageFull_39 ?_
      refine v_iload_n (f := 1) 1 rfl dX4_isPageFull_42 ?_
      refine v_iaload kd_118 g6 (by decide) dX4_isPageFull_43 ?_
      refine v_icmp_ne (tgt := 64) dX4_isPageFull_44 (by decide) (fun c7 => ?_) (fun c7 => ?_)
      · replace h := b_wp_f c7 h
        obtain ⟨g8, h⟩ := b_wp_g h
        refine v_iincN (ls' := [(4, bI _), (0, bR _), (1, bI _), (2, bI _), (3, bI _)]) 4 rfl (by decide) g8 dX4_isPageFull_64 rfl ?_
        refine v_goto (tgt := 5) dX4_isPageFull_67 (by decide) ?_
        refine v_sub (ls2 := [(0, bR _), (1, bI _), (2, bI _), (3, bI _), (4, bI _)]) [1, 2, 3, 4, 0] rfl ?_
        exact h
      · replace h := b_wp_t c7 h
        obtain ⟨g9, h⟩ := b_wp_g h
        refine v_aload_n (f := 0) 0 rfl dX4_isPageFull_47 ?_
        refine v_getR (kf := 3) (kz := 3) rfl kd_6 rfl ⟨by decide, by decide⟩ rfl wf_4_35 dX4_isPageFull_48 ?_
        refine v_getR (kf := 4) (kz := 4) rfl kd_5 rfl ⟨by decide, by decide⟩ rfl wf_4_76 dX4_isPageFull_51 ?_
        refine v_iload (i := 4) 4 rfl dX4_isPageFull_54 ?_
        refine v_iaload kd_112 g9 (by decide) dX4_isPageFull_56 ?_
        refine v_iload_n (f := 2) 2 rfl dX4_isPageFull_57 ?_
        refine v_icmp_gt (tgt := 64) dX4_isPageFull_58 (by decide) (fun c10 => ?_) (fun c10 => ?_)
        · replace h := b_wp_t c10 h
          obtain ⟨g11, h⟩ := b_wp_g h
          refine v_iincN (ls' := [(4, bI _), (0, bR _), (1, bI _), (2, bI _), (3, bI _)]) 4 rfl (by decide) g11 dX4_isPageFull_64 rfl ?_
          refine v_goto (tgt := 5) dX4_isPageFull_67 (by decide) ?_
          refine v_sub (ls2 := [(0, bR _), (1, bI _), (2, bI _), (3, bI _), (4, bI _)]) [1, 2, 3, 4, 0] rfl ?_
          exact h
        · replace h := b_wp_f c10 h
          obtain ⟨⟨g12, g13⟩, h⟩ := b_wp_g h
          refine v_iincN (ls' := [(3, bI _), (0, bR _), (1, bI _), (2, bI _), (4, bI _)]) 3 rfl (by decide) g12 dX4_isPageFull_61 rfl ?_
          refine v_iincN (ls' := [(4, bI _), (3, bI _), (0, bR _), (1, bI _), (2, bI _)]) 4 rfl (by decide) g13 dX4_isPageFull_64 rfl ?_
          refine v_goto (tgt := 5) dX4_isPageFull_67 (by decide) ?_
          refine v_sub (ls2 := [(0, bR _), (1, bI _), (2, bI _), (3, bI _), (4, bI _)]) [2, 3, 4, 1, 0] rfl ?_
          exact h
theorem l_X4_isPageFull_5 {l : Launch} {E : bE} {Q : Int → Prop} {v1 : Int} {v2 : Int} {M : bM} {s : Int × Int} (h : b_wp (b_loop (fun t => F_X4_isPageFull_s5 v1 v2 t.1 t.2 M) s) (X_X4_isPageFull_5 l E Q v1 v2 M)) : A_X4_isPageFull_5 l E Q v1 v2 M s := b_loop_wp (fun t h => t_X4_isPageFull_s5 h) s h
noncomputable def F_X4_isPageFull_b70 (v3 : Int) (M : bM) : Option (Int) :=
  if v3 < (M 5 1) then (some 0) else (some 1)
theorem t_X4_isPageFull_b70 {l : Launch} {E : bE} {Q : Int → Prop} {v3 : Int} {M : bM} (h : b_wp (F_X4_isPageFull_b70 v3 M) (Q)) : V l E xX4_isPageFull (0, 0) 70 [(0, bR 6), (3, bI v3)] [] M (b_pIp M Q) := by
  unfold F_X4_isPageFull_b70 at h
  refine v_iload_n (f := 3) 1 rfl dX4_isPageFull_70 ?_
  refine v_aload_n (f := 0) 0 rfl dX4_isPageFull_71 ?_
  refine v_getR (kf := 3) (kz := 3) rfl kd_6 rfl ⟨by decide, by decide⟩ rfl wf_4_35 dX4_isPageFull_72 ?_
  refine v_getI (kf := 1) (kz := 1) rfl kd_5 rfl ⟨by decide, by decide⟩ rfl wf_4_143 dX4_isPageFull_75 ?_
  refine v_icmp_lt (tgt := 85) dX4_isPageFull_78 (by decide) (fun c14 => ?_) (fun c14 => ?_)
  · replace h := b_wp_t c14 h
    refine v_iconst ⟨by decide, by decide⟩ dX4_isPageFull_85 ?_
    refine v_zreturn rfl (Or.inl rfl) dX4_isPageFull_86 ⟨by decide, by decide⟩ ?_
    exact ⟨_, rfl, rfl, h⟩
  · replace h := b_wp_f c14 h
    refine v_iconst ⟨by decide, by decide⟩ dX4_isPageFull_81 ?_
    refine v_goto (tgt := 86) dX4_isPageFull_82 (by decide) ?_
    refine v_zreturn rfl (Or.inr rfl) dX4_isPageFull_86 ⟨by decide, by decide⟩ ?_
    exact ⟨_, rfl, rfl, h⟩
noncomputable def F_X4_isPageFull (v1 : Int) (v2 : Int) (M : bM) : Option (Int) :=
  b_bind (b_loop (fun t => F_X4_isPageFull_s5 v1 v2 t.1 t.2 M) (0, 0)) (fun t => F_X4_isPageFull_b70 t M)
theorem t_X4_isPageFull {l : Launch} {E : bE} {Q : Int → Prop} {v1 : Int} {v2 : Int} {M : bM} (h : b_wp (F_X4_isPageFull v1 v2 M) (Q)) : V l E xX4_isPageFull (0, 0) 0 [(0, bR 6), (1, bI v1), (2, bI v2)] [] M (b_pIp M Q) := by
  unfold F_X4_isPageFull at h
  refine v_iconst ⟨by decide, by decide⟩ dX4_isPageFull_0 ?_
  refine v_istore_n (g := 3) (i := 3) (ls' := [(3, bI _), (0, bR _), (1, bI _), (2, bI _)]) rfl (by decide) dX4_isPageFull_1 rfl ?_
  refine v_iconst ⟨by decide, by decide⟩ dX4_isPageFull_2 ?_
  refine v_istore (i := 4) (ls' := [(4, bI _), (3, bI _), (0, bR _), (1, bI _), (2, bI _)]) (by decide) dX4_isPageFull_3 rfl ?_
  refine v_sub (ls2 := [(0, bR _), (1, bI _), (2, bI _), (3, bI _), (4, bI _)]) [2, 3, 4, 1, 0] rfl ?_
  refine l_X4_isPageFull_5 (b_wp_m (fun t h => ?_) (b_wp_b h))
  show V l E xX4_isPageFull (0, 0) 70 [(0, bR 6), (3, bI _)] [] _ (b_pIp M Q)
  exact t_X4_isPageFull_b70 h
theorem cf_X4_isPageFull {l : Launch} {E : bE} {M : bM} {v1 : Int} {v2 : Int} {Q : Int → Prop} (h : b_wp (F_X4_isPageFull v1 v2 M) Q) : b_C l E xX4_isPageFull yX4_isPageFull [bR 6, bI v1, bI v2] M (b_pIp M Q) := b_met (by decide) ⟨rfl, rfl⟩ (Nat.le_of_ble_eq_true rfl) (fun _ _ => t_X4_isPageFull h)
abbrev xX5_isThereWithin : bX := ("BurntHall$Lots", prog_7_method_12_code, 4, (Option.some Jvm.ClassFile.FieldType.boolean), b_rm 2 0 0, 0, "isThereWithin")
abbrev yX5_isThereWithin : MethodName := ⟨"BurntHall$Lots", "isThereWithin", "(III)Z"⟩
theorem dX5_isThereWithin_0 : decode prog_7_method_12_code 0 = .ok (.aload_n 0, 1) := by decide +kernel
theorem dX5_isThereWithin_1 : decode prog_7_method_12_code 1 = .ok (.iload_n 1, 1) := by decide +kernel
theorem dX5_isThereWithin_2 : decode prog_7_method_12_code 2 = .ok (.invokevirtual 87, 3) := by decide +kernel
theorem dX5_isThereWithin_5 : decode prog_7_method_12_code 5 = .ok (.ifCond .eq 46, 3) := by decide +kernel
theorem dX5_isThereWithin_8 : decode prog_7_method_12_code 8 = .ok (.aload_n 0, 1) := by decide +kernel
theorem dX5_isThereWithin_9 : decode prog_7_method_12_code 9 = .ok (.getfield 27, 3) := by decide +kernel
theorem dX5_isThereWithin_12 : decode prog_7_method_12_code 12 = .ok (.iload_n 1, 1) := by decide +kernel
theorem dX5_isThereWithin_13 : decode prog_7_method_12_code 13 = .ok (.iaload, 1) := by decide +kernel
theorem dX5_isThereWithin_14 : decode prog_7_method_12_code 14 = .ok (.iload_n 3, 1) := by decide +kernel
theorem dX5_isThereWithin_15 : decode prog_7_method_12_code 15 = .ok (.if_icmp .gt 36, 3) := by decide +kernel
theorem dX5_isThereWithin_18 : decode prog_7_method_12_code 18 = .ok (.aload_n 0, 1) := by decide +kernel
theorem dX5_isThereWithin_19 : decode prog_7_method_12_code 19 = .ok (.getfield 30, 3) := by decide +kernel
theorem dX5_isThereWithin_22 : decode prog_7_method_12_code 22 = .ok (.iload_n 1, 1) := by decide +kernel
theorem dX5_isThereWithin_23 : decode prog_7_method_12_code 23 = .ok (.iaload, 1) := by decide +kernel
theorem dX5_isThereWithin_24 : decode prog_7_method_12_code 24 = .ok (.iconst (-1), 1) := by decide +kernel
theorem dX5_isThereWithin_25 : decode prog_7_method_12_code 25 = .ok (.if_icmp .eq 22, 3) := by decide +kernel
theorem dX5_isThereWithin_28 : decode prog_7_method_12_code 28 = .ok (.aload_n 0, 1) := by decide +kernel
theorem dX5_isThereWithin_29 : decode prog_7_method_12_code 29 = .ok (.getfield 27, 3) := by decide +kernel
theorem dX5_isThereWithin_32 : decode prog_7_method_12_code 32 = .ok (.iload_n 1, 1) := by decide +kernel
theorem dX5_isThereWithin_33 : decode prog_7_method_12_code 33 = .ok (.iaload, 1) := by decide +kernel
theorem dX5_isThereWithin_34 : decode prog_7_method_12_code 34 = .ok (.iload_n 2, 1) := by decide +kernel
theorem dX5_isThereWithin_35 : decode prog_7_method_12_code 35 = .ok (.invokestatic 98, 3) := by decide +kernel
theorem dX5_isThereWithin_38 : decode prog_7_method_12_code 38 = .ok (.aload_n 0, 1) := by decide +kernel
theorem dX5_isThereWithin_39 : decode prog_7_method_12_code 39 = .ok (.getfield 30, 3) := by decide +kernel
theorem dX5_isThereWithin_42 : decode prog_7_method_12_code 42 = .ok (.iload_n 1, 1) := by decide +kernel
theorem dX5_isThereWithin_43 : decode prog_7_method_12_code 43 = .ok (.iaload, 1) := by decide +kernel
theorem dX5_isThereWithin_44 : decode prog_7_method_12_code 44 = .ok (.if_icmp .ge 7, 3) := by decide +kernel
theorem dX5_isThereWithin_47 : decode prog_7_method_12_code 47 = .ok (.iconst 1, 1) := by decide +kernel
theorem dX5_isThereWithin_48 : decode prog_7_method_12_code 48 = .ok (.goto 4, 3) := by decide +kernel
theorem dX5_isThereWithin_51 : decode prog_7_method_12_code 51 = .ok (.iconst 0, 1) := by decide +kernel
theorem dX5_isThereWithin_52 : decode prog_7_method_12_code 52 = .ok (.ireturn, 1) := by decide +kernel
noncomputable def F_X5_isThereWithin (v1 : Int) (v2 : Int) (v3 : Int) (M : bM) : Option (Int) :=
  b_bind (F_X5_has v1 M) (fun x1 => if x1 = 0 then (some 0) else (b_g (0 ≤ v1 ∧ v1 < 60) (if v3 < (M 87 v1) then (some 0) else (b_g (0 ≤ v1 ∧ v1 < 60) (if (M 88 v1) = (-1) then (some 1) else (b_g (0 ≤ v1 ∧ v1 < 60) (if (M 88 v1) ≤ (max (M 87 v1) v2) then (some 0) else (some 1))))))))
theorem t_X5_isThereWithin {l : Launch} {E : bE} {Q : Int → Prop} {v1 : Int} {v2 : Int} {v3 : Int} {M : bM} (h : b_wp (F_X5_isThereWithin v1 v2 v3 M) (Q)) : V l E xX5_isThereWithin (0, 0) 0 [(0, bR 3), (1, bI v1), (2, bI v2), (3, bI v3)] [] M (b_pIp M Q) := by
  unfold F_X5_isThereWithin at h
  refine v_aload_n (f := 0) 0 rfl dX5_isThereWithin_0 ?_
  refine v_iload_n (f := 1) 1 rfl dX5_isThereWithin_1 ?_
  refine v_cVIp (nA := 1) (As := [bI _]) (ix := 87) (cf_X5_has (b_wp_b h)) rfl kd_3 rfl rfl wc_X5_has wm_5_87 wi_X5_has ws_X5_has wn_5 ⟨by decide, by decide, by decide⟩ rfl ⟨by decide, by decide⟩ ⟨by decide, by decide⟩ (Nat.le_of_ble_eq_true rfl) dX5_isThereWithin_2 (fun x1 h => ?_)
  refine v_if_eq (tgt := 51) dX5_isThereWithin_5 (by decide) (fun c2 => ?_) (fun c2 => ?_)
  · replace h := b_wp_t c2 h
    refine v_iconst ⟨by decide, by decide⟩ dX5_isThereWithin_51 ?_
    refine v_zreturn rfl (Or.inl rfl) dX5_isThereWithin_52 ⟨by decide, by decide⟩ ?_
    exact ⟨_, rfl, rfl, h⟩
  · replace h := b_wp_f c2 h
    obtain ⟨g3, h⟩ := b_wp_g h
    refine v_aload_n (f := 0) 0 rfl dX5_isThereWithin_8 ?_
    refine v_getR (kf := 3) (kz := 3) rfl kd_3 rfl ⟨by decide, by decide⟩ rfl wf_5_27 dX5_isThereWithin_9 ?_
    refine v_iload_n (f := 1) 1 rfl dX5_isThereWithin_12 ?_
    refine v_iaload kd_87 g3 (by decide) dX5_isThereWithin_13 ?_
    refine v_iload_n (f := 3) 3 rfl dX5_isThereWithin_14 ?_
    refine v_icmp_gt (tgt := 51) dX5_isThereWithin_15 (by decide) (fun c4 => ?_) (fun c4 => ?_)
    · replace h := b_wp_t c4 h
      refine v_iconst ⟨by decide, by decide⟩ dX5_isThereWithin_51 ?_
      refine v_zreturn rfl (Or.inl rfl) dX5_isThereWithin_52 ⟨by decide, by decide⟩ ?_
      exact ⟨_, rfl, rfl, h⟩
    · replace h := b_wp_f c4 h
      obtain ⟨g5, h⟩ := b_wp_g h
      refine v_aload_n (f := 0) 0 rfl dX5_isThereWithin_18 ?_
      refine v_getR (kf := 4) (kz := 4) rfl kd_3 rfl ⟨by decide, by decide⟩ rfl wf_5_30 dX5_isThereWithin_19 ?_
      refine v_iload_n (f := 1) 1 rfl dX5_isThereWithin_22 ?_
      refine v_iaload kd_88 g5 (by decide) dX5_isThereWithin_23 ?_
      refine v_iconst ⟨by decide, by decide⟩ dX5_isThereWithin_24 ?_
      refine v_icmp_eq (tgt := 47) dX5_isThereWithin_25 (by decide) (fun c6 => ?_) (fun c6 => ?_)
      · replace h := b_wp_t c6 h
        refine v_iconst ⟨by decide, by decide⟩ dX5_isThereWithin_47 ?_
        refine v_goto (tgt := 52) dX5_isThereWithin_48 (by decide) ?_
        refine v_zreturn rfl (Or.inr rfl) dX5_isThereWithin_52 ⟨by decide, by decide⟩ ?_
        exact ⟨_, rfl, rfl, h⟩
      · replace h := b_wp_f c6 h
        obtain ⟨g7, h⟩ := b_wp_g h
        refine v_aload_n (f := 0) 0 rfl dX5_isThereWithin_28 ?_
        refine v_getR (kf := 3) (kz := 3) rfl kd_3 rfl ⟨by decide, by decide⟩ rfl wf_5_27 dX5_isThereWithin_29 ?_
        refine v_iload_n (f := 1) 1 rfl dX5_isThereWithin_32 ?_
        refine v_iaload kd_87 g7 (by decide) dX5_isThereWithin_33 ?_
        refine v_iload_n (f := 2) 2 rfl dX5_isThereWithin_34 ?_
        refine v_mmax wm_5_98 wma_max wmi wmc_max ⟨by decide, by decide⟩ ⟨by decide, by decide⟩ (Nat.le_of_ble_eq_true rfl) dX5_isThereWithin_35 ?_
        refine v_aload_n (f := 0) 0 rfl dX5_isThereWithin_38 ?_
        refine v_getR (kf := 4) (kz := 4) rfl kd_3 rfl ⟨by decide, by decide⟩ rfl wf_5_30 dX5_isThereWithin_39 ?_
        refine v_iload_n (f := 1) 1 rfl dX5_isThereWithin_42 ?_
        refine v_iaload kd_88 g7 (by decide) dX5_isThereWithin_43 ?_
        refine v_icmp_ge (tgt := 51) dX5_isThereWithin_44 (by decide) (fun c8 => ?_) (fun c8 => ?_)
        · replace h := b_wp_t c8 h
          refine v_iconst ⟨by decide, by decide⟩ dX5_isThereWithin_51 ?_
          refine v_zreturn rfl (Or.inl rfl) dX5_isThereWithin_52 ⟨by decide, by decide⟩ ?_
          exact ⟨_, rfl, rfl, h⟩
        · replace h := b_wp_f c8 h
          refine v_iconst ⟨by decide, by decide⟩ dX5_isThereWithin_47 ?_
          refine v_goto (tgt := 52) dX5_isThereWithin_48 (by decide) ?_
          refine v_zreturn rfl (Or.inr rfl) dX5_isThereWithin_52 ⟨by decide, by decide⟩ ?_
          exact ⟨_, rfl, rfl, h⟩
theorem cf_X5_isThereWithin {l : Launch} {E : bE} {M : bM} {v1 : Int} {v2 : Int} {v3 : Int} {Q : Int → Prop} (h : b_wp (F_X5_isThereWithin v1 v2 v3 M) Q) : b_C l E xX5_isThereWithin yX5_isThereWithin [bR 3, bI v1, bI v2, bI v3] M (b_pIp M Q) := b_met (by decide) ⟨rfl, rfl⟩ (Nat.le_of_ble_eq_true rfl) (fun _ _ => t_X5_isThereWithin h)
abbrev xX4_reason : bX := ("BurntHall$Evidence", prog_6_method_8_code, 4, (Option.some Jvm.ClassFile.FieldType.int), b_rm 4 0 0, 0, "reason")
abbrev yX4_reason : MethodName := ⟨"BurntHall$Evidence", "reason", "(II)I"⟩
theorem dX4_reason_0 : decode prog_6_method_8_code 0 = .ok (.aload_n 0, 1) := by decide +kernel
theorem dX4_reason_1 : decode prog_6_method_8_code 1 = .ok (.getfield 35, 3) := by decide +kernel
theorem dX4_reason_4 : decode prog_6_method_8_code 4 = .ok (.getfield 104, 3) := by decide +kernel
theorem dX4_reason_7 : decode prog_6_method_8_code 7 = .ok (.iload_n 1, 1) := by decide +kernel
theorem dX4_reason_8 : decode prog_6_method_8_code 8 = .ok (.iaload, 1) := by decide +kernel
theorem dX4_reason_9 : decode prog_6_method_8_code 9 = .ok (.iconst (-1), 1) := by decide +kernel
theorem dX4_reason_10 : decode prog_6_method_8_code 10 = .ok (.if_icmp .eq 39, 3) := by decide +kernel
theorem dX4_reason_13 : decode prog_6_method_8_code 13 = .ok (.aload_n 0, 1) := by decide +kernel
theorem dX4_reason_14 : decode prog_6_method_8_code 14 = .ok (.aload_n 0, 1) := by decide +kernel
theorem dX4_reason_15 : decode prog_6_method_8_code 15 = .ok (.getfield 35, 3) := by decide +kernel
theorem dX4_reason_18 : decode prog_6_method_8_code 18 = .ok (.getfield 104, 3) := by decide +kernel
theorem dX4_reason_21 : decode prog_6_method_8_code 21 = .ok (.iload_n 1, 1) := by decide +kernel
theorem dX4_reason_22 : decode prog_6_method_8_code 22 = .ok (.iaload, 1) := by decide +kernel
theorem dX4_reason_23 : decode prog_6_method_8_code 23 = .ok (.aload_n 0, 1) := by decide +kernel
theorem dX4_reason_24 : decode prog_6_method_8_code 24 = .ok (.getfield 35, 3) := by decide +kernel
theorem dX4_reason_27 : decode prog_6_method_8_code 27 = .ok (.getfield 107, 3) := by decide +kernel
theorem dX4_reason_30 : decode prog_6_method_8_code 30 = .ok (.iload_n 1, 1) := by decide +kernel
theorem dX4_reason_31 : decode prog_6_method_8_code 31 = .ok (.iaload, 1) := by decide +kernel
theorem dX4_reason_32 : decode prog_6_method_8_code 32 = .ok (.aload_n 0, 1) := by decide +kernel
theorem dX4_reason_33 : decode prog_6_method_8_code 33 = .ok (.getfield 35, 3) := by decide +kernel
theorem dX4_reason_36 : decode prog_6_method_8_code 36 = .ok (.getfield 107, 3) := by decide +kernel
theorem dX4_reason_39 : decode prog_6_method_8_code 39 = .ok (.iload_n 1, 1) := by decide +kernel
theorem dX4_reason_40 : decode prog_6_method_8_code 40 = .ok (.iaload, 1) := by decide +kernel
theorem dX4_reason_41 : decode prog_6_method_8_code 41 = .ok (.invokevirtual 110, 3) := by decide +kernel
theorem dX4_reason_44 : decode prog_6_method_8_code 44 = .ok (.ifCond .ne 5, 3) := by decide +kernel
theorem dX4_reason_47 : decode prog_6_method_8_code 47 = .ok (.iconst 1, 1) := by decide +kernel
theorem dX4_reason_48 : decode prog_6_method_8_code 48 = .ok (.ireturn, 1) := by decide +kernel
theorem dX4_reason_49 : decode prog_6_method_8_code 49 = .ok (.aload_n 0, 1) := by decide +kernel
theorem dX4_reason_50 : decode prog_6_method_8_code 50 = .ok (.getfield 35, 3) := by decide +kernel
theorem dX4_reason_53 : decode prog_6_method_8_code 53 = .ok (.iload_n 1, 1) := by decide +kernel
theorem dX4_reason_54 : decode prog_6_method_8_code 54 = .ok (.iconst 2, 1) := by decide +kernel
theorem dX4_reason_55 : decode prog_6_method_8_code 55 = .ok (.invokevirtual 114, 3) := by decide +kernel
theorem dX4_reason_58 : decode prog_6_method_8_code 58 = .ok (.istore_n 3, 1) := by decide +kernel
theorem dX4_reason_59 : decode prog_6_method_8_code 59 = .ok (.iload_n 3, 1) := by decide +kernel
theorem dX4_reason_60 : decode prog_6_method_8_code 60 = .ok (.iconst (-1), 1) := by decide +kernel
theorem dX4_reason_61 : decode prog_6_method_8_code 61 = .ok (.if_icmp .eq 34, 3) := by decide +kernel
theorem dX4_reason_64 : decode prog_6_method_8_code 64 = .ok (.aload_n 0, 1) := by decide +kernel
theorem dX4_reason_65 : decode prog_6_method_8_code 65 = .ok (.getfield 31, 3) := by decide +kernel
theorem dX4_reason_68 : decode prog_6_method_8_code 68 = .ok (.iload_n 3, 1) := by decide +kernel
theorem dX4_reason_69 : decode prog_6_method_8_code 69 = .ok (.aload_n 0, 1) := by decide +kernel
theorem dX4_reason_70 : decode prog_6_method_8_code 70 = .ok (.getfield 35, 3) := by decide +kernel
theorem dX4_reason_73 : decode prog_6_method_8_code 73 = .ok (.getfield 117, 3) := by decide +kernel
theorem dX4_reason_76 : decode prog_6_method_8_code 76 = .ok (.iload_n 1, 1) := by decide +kernel
theorem dX4_reason_77 : decode prog_6_method_8_code 77 = .ok (.iaload, 1) := by decide +kernel
theorem dX4_reason_78 : decode prog_6_method_8_code 78 = .ok (.aload_n 0, 1) := by decide +kernel
theorem dX4_reason_79 : decode prog_6_method_8_code 79 = .ok (.getfield 35, 3) := by decide +kernel
theorem dX4_reason_82 : decode prog_6_method_8_code 82 = .ok (.getfield 120, 3) := by decide +kernel
theorem dX4_reason_85 : decode prog_6_method_8_code 85 = .ok (.iload_n 1, 1) := by decide +kernel
theorem dX4_reason_86 : decode prog_6_method_8_code 86 = .ok (.iaload, 1) := by decide +kernel
theorem dX4_reason_87 : decode prog_6_method_8_code 87 = .ok (.invokevirtual 123, 3) := by decide +kernel
theorem dX4_reason_90 : decode prog_6_method_8_code 90 = .ok (.ifCond .ne 5, 3) := by decide +kernel
theorem dX4_reason_93 : decode prog_6_method_8_code 93 = .ok (.iconst 2, 1) := by decide +kernel
theorem dX4_reason_94 : decode prog_6_method_8_code 94 = .ok (.ireturn, 1) := by decide +kernel
theorem dX4_reason_95 : decode prog_6_method_8_code 95 = .ok (.aload_n 0, 1) := by decide +kernel
theorem dX4_reason_96 : decode prog_6_method_8_code 96 = .ok (.aload_n 0, 1) := by decide +kernel
theorem dX4_reason_97 : decode prog_6_method_8_code 97 = .ok (.getfield 35, 3) := by decide +kernel
theorem dX4_reason_100 : decode prog_6_method_8_code 100 = .ok (.iload_n 1, 1) := by decide +kernel
theorem dX4_reason_101 : decode prog_6_method_8_code 101 = .ok (.iconst 0, 1) := by decide +kernel
theorem dX4_reason_102 : decode prog_6_method_8_code 102 = .ok (.invokevirtual 114, 3) := by decide +kernel
theorem dX4_reason_105 : decode prog_6_method_8_code 105 = .ok (.aload_n 0, 1) := by decide +kernel
theorem dX4_reason_106 : decode prog_6_method_8_code 106 = .ok (.getfield 35, 3) := by decide +kernel
theorem dX4_reason_109 : decode prog_6_method_8_code 109 = .ok (.getfield 117, 3) := by decide +kernel
theorem dX4_reason_112 : decode prog_6_method_8_code 112 = .ok (.iload_n 1, 1) := by decide +kernel
theorem dX4_reason_113 : decode prog_6_method_8_code 113 = .ok (.iaload, 1) := by decide +kernel
theorem dX4_reason_114 : decode prog_6_method_8_code 114 = .ok (.aload_n 0, 1) := by decide +kernel
theorem dX4_reason_115 : decode prog_6_method_8_code 115 = .ok (.getfield 35, 3) := by decide +kernel
theorem dX4_reason_118 : decode prog_6_method_8_code 118 = .ok (.getfield 120, 3) := by decide +kernel
theorem dX4_reason_121 : decode prog_6_method_8_code 121 = .ok (.iload_n 1, 1) := by decide +kernel
theorem dX4_reason_122 : decode prog_6_method_8_code 122 = .ok (.iaload, 1) := by decide +kernel
theorem dX4_reason_123 : decode prog_6_method_8_code 123 = .ok (.invokevirtual 110, 3) := by decide +kernel
theorem dX4_reason_126 : decode prog_6_method_8_code 126 = .ok (.ifCond .ne 5, 3) := by decide +kernel
theorem dX4_reason_129 : decode prog_6_method_8_code 129 = .ok (.iconst 3, 1) := by decide +kernel
theorem dX4_reason_130 : decode prog_6_method_8_code 130 = .ok (.ireturn, 1) := by decide +kernel
theorem dX4_reason_131 : decode prog_6_method_8_code 131 = .ok (.aload_n 0, 1) := by decide +kernel
theorem dX4_reason_132 : decode prog_6_method_8_code 132 = .ok (.aload_n 0, 1) := by decide +kernel
theorem dX4_reason_133 : decode prog_6_method_8_code 133 = .ok (.getfield 35, 3) := by decide +kernel
theorem dX4_reason_136 : decode prog_6_method_8_code 136 = .ok (.iload_n 1, 1) := by decide +kernel
theorem dX4_reason_137 : decode prog_6_method_8_code 137 = .ok (.iconst 1, 1) := by decide +kernel
theorem dX4_reason_138 : decode prog_6_method_8_code 138 = .ok (.invokevirtual 114, 3) := by decide +kernel
theorem dX4_reason_141 : decode prog_6_method_8_code 141 = .ok (.aload_n 0, 1) := by decide +kernel
theorem dX4_reason_142 : decode prog_6_method_8_code 142 = .ok (.getfield 35, 3) := by decide +kernel
theorem dX4_reason_145 : decode prog_6_method_8_code 145 = .ok (.getfield 117, 3) := by decide +kernel
theorem dX4_reason_148 : decode prog_6_method_8_code 148 = .ok (.iload_n 1, 1) := by decide +kernel
theorem dX4_reason_149 : decode prog_6_method_8_code 149 = .ok (.iaload, 1) := by decide +kernel
theorem dX4_reason_150 : decode prog_6_method_8_code 150 = .ok (.aload_n 0, 1) := by decide +kernel
theorem dX4_reason_151 : decode prog_6_method_8_code 151 = .ok (.getfield 35, 3) := by decide +kernel
theorem dX4_reason_154 : decode prog_6_method_8_code 154 = .ok (.getfield 120, 3) := by decide +kernel
theorem dX4_reason_157 : decode prog_6_method_8_code 157 = .ok (.iload_n 1, 1) := by decide +kernel
theorem dX4_reason_158 : decode prog_6_method_8_code 158 = .ok (.iaload, 1) := by decide +kernel
theorem dX4_reason_159 : decode prog_6_method_8_code 159 = .ok (.invokevirtual 110, 3) := by decide +kernel
theorem dX4_reason_162 : decode prog_6_method_8_code 162 = .ok (.ifCond .ne 5, 3) := by decide +kernel
theorem dX4_reason_165 : decode prog_6_method_8_code 165 = .ok (.iconst 4, 1) := by decide +kernel
theorem dX4_reason_166 : decode prog_6_method_8_code 166 = .ok (.ireturn, 1) := by decide +kernel
theorem dX4_reason_167 : decode prog_6_method_8_code 167 = .ok (.aload_n 0, 1) := by decide +kernel
theorem dX4_reason_168 : decode prog_6_method_8_code 168 = .ok (.getfield 35, 3) := by decide +kernel
theorem dX4_reason_171 : decode prog_6_method_8_code 171 = .ok (.getfield 104, 3) := by decide +kernel
theorem dX4_reason_174 : decode prog_6_method_8_code 174 = .ok (.iload_n 1, 1) := by decide +kernel
theorem dX4_reason_175 : decode prog_6_method_8_code 175 = .ok (.iaload, 1) := by decide +kernel
theorem dX4_reason_176 : decode prog_6_method_8_code 176 = .ok (.iconst (-1), 1) := by decide +kernel
theorem dX4_reason_177 : decode prog_6_method_8_code 177 = .ok (.if_icmp .eq 16, 3) := by decide +kernel
theorem dX4_reason_180 : decode prog_6_method_8_code 180 = .ok (.aload_n 0, 1) := by decide +kernel
theorem dX4_reason_181 : decode prog_6_method_8_code 181 = .ok (.iload_n 1, 1) := by decide +kernel
theorem dX4_reason_182 : decode prog_6_method_8_code 182 = .ok (.iload_n 2, 1) := by decide +kernel
theorem dX4_reason_183 : decode prog_6_method_8_code 183 = .ok (.invokevirtual 128, 3) := by decide +kernel
theorem dX4_reason_186 : decode prog_6_method_8_code 186 = .ok (.ifCond .eq 7, 3) := by decide +kernel
theorem dX4_reason_189 : decode prog_6_method_8_code 189 = .ok (.iconst 5, 1) := by decide +kernel
theorem dX4_reason_190 : decode prog_6_method_8_code 190 = .ok (.goto 4, 3) := by decide +kernel
theorem dX4_reason_193 : decode prog_6_method_8_code 193 = .ok (.iconst 0, 1) := by decide +kernel
theorem dX4_reason_194 : decode prog_6_method_8_code 194 = .ok (.ireturn, 1) := by decide +kernel
noncomputable def F_X4_reason_b95 (v1 : Int) (v2 : Int) (M : bM) : Option (Int) :=
  b_bind (F_X7_saying v1 0 M) (fun x5 => b_g (0 ≤ v1 ∧ v1 < 120) (b_bind (F_X4_livesWithin x5 (M 113 v1) (M 114 v1) M) (fun x7 => if x7 = 0 then (some 3) else (b_bind (F_X7_saying v1 1 M) (fun x9 => b_g (0 ≤ v1 ∧ v1 < 120) (b_bind (F_X4_livesWithin x9 (M 113 v1) (M 114 v1) M) (fun x11 => if x11 = 0 then (some 4) else (b_g (0 ≤ v1 ∧ v1 < 120) (if (M 116 v1) = (-1) then (some 0) else (b_bind (F_X4_isPageFull v1 v2 M) (fun x15 => if x15 = 0 then (some 0) else (some 5))))))))))))
theorem t_X4_reason_b95 {l : Launch} {E : bE} {Q : Int → Prop} {v1 : Int} {v2 : Int} {M : bM} (h : b_wp (F_X4_reason_b95 v1 v2 M) (Q)) : V l E xX4_reason (0, 0) 95 [(0, bR 6), (1, bI v1), (2, bI v2)] [] M (b_pIp M Q) := by
  unfold F_X4_reason_b95 at h
  refine v_aload_n (f := 0) 0 rfl dX4_reason_95 ?_
  refine v_aload_n (f := 0) 0 rfl dX4_reason_96 ?_
  refine v_getR (kf := 3) (kz := 3) rfl kd_6 rfl ⟨by decide, by decide⟩ rfl wf_4_35 dX4_reason_97 ?_
  refine v_iload_n (f := 1) 1 rfl dX4_reason_100 ?_
  refine v_iconst ⟨by decide, by decide⟩ dX4_reason_101 ?_
  refine v_cVIp (nA := 2) (As := [bI _, bI _]) (ix := 114) (cf_X7_saying (b_wp_b h)) rfl kd_5 rfl rfl wc_X7_saying wm_4_114 wi_X7_saying ws_X7_saying wn_7 ⟨by decide, by decide, by decide⟩ rfl ⟨by decide, by decide⟩ ⟨by decide, by decide⟩ (Nat.le_of_ble_eq_true rfl) dX4_reason_102 (fun x5 h => ?_)
  obtain ⟨g6, h⟩ := b_wp_g h
  refine v_aload_n (f := 0) 0 rfl dX4_reason_105 ?_
  refine v_getR (kf := 3) (kz := 3) rfl kd_6 rfl ⟨by decide, by decide⟩ rfl wf_4_35 dX4_reason_106 ?_
  refine v_getR (kf := 5) (kz := 5) rfl kd_5 rfl ⟨by decide, by decide⟩ rfl wf_4_117 dX4_reason_109 ?_
  refine v_iload_n (f := 1) 1 rfl dX4_reason_112 ?_
  refine v_iaload kd_113 g6 (by decide) dX4_reason_113 ?_
  refine v_aload_n (f := 0) 0 rfl dX4_reason_114 ?_
  refine v_getR (kf := 3) (kz := 3) rfl kd_6 rfl ⟨by decide, by decide⟩ rfl wf_4_35 dX4_reason_115 ?_
  refine v_getR (kf := 6) (kz := 6) rfl kd_5 rfl ⟨by decide, by decide⟩ rfl wf_4_120 dX4_reason_118 ?_
  refine v_iload_n (f := 1) 1 rfl dX4_reason_121 ?_
  refine v_iaload kd_114 g6 (by decide) dX4_reason_122 ?_
  refine v_cVIp (nA := 3) (As := [bI _, bI _, bI _]) (ix := 110) (cf_X4_livesWithin (b_wp_b h)) rfl kd_6 rfl rfl wc_X4_livesWithin wm_4_110 wi_X4_livesWithin ws_X4_livesWithin wn_4 ⟨by decide, by decide, by decide⟩ rfl ⟨by decide, by decide⟩ ⟨by decide, by decide⟩ (Nat.le_of_ble_eq_true rfl) dX4_reason_123 (fun x7 h => ?_)
  refine v_if_ne (tgt := 131) dX4_reason_126 (by decide) (fun c8 => ?_) (fun c8 => ?_)
  · replace h := b_wp_f c8 h
    refine v_aload_n (f := 0) 0 rfl dX4_reason_131 ?_
    refine v_aload_n (f := 0) 0 rfl dX4_reason_132 ?_
    refine v_getR (kf := 3) (kz := 3) rfl kd_6 rfl ⟨by decide, by decide⟩ rfl wf_4_35 dX4_reason_133 ?_
    refine v_iload_n (f := 1) 1 rfl dX4_reason_136 ?_
    refine v_iconst ⟨by decide, by decide⟩ dX4_reason_137 ?_
    refine v_cVIp (nA := 2) (As := [bI _, bI _]) (ix := 114) (cf_X7_saying (b_wp_b h)) rfl kd_5 rfl rfl wc_X7_saying wm_4_114 wi_X7_saying ws_X7_saying wn_7 ⟨by decide, by decide, by decide⟩ rfl ⟨by decide, by decide⟩ ⟨by decide, by decide⟩ (Nat.le_of_ble_eq_true rfl) dX4_reason_138 (fun x9 h => ?_)
    obtain ⟨g10, h⟩ := b_wp_g h
    refine v_aload_n (f := 0) 0 rfl dX4_reason_141 ?_
    refine v_getR (kf := 3) (kz := 3) rfl kd_6 rfl ⟨by decide, by decide⟩ rfl wf_4_35 dX4_reason_142 ?_
    refine v_getR (kf := 5) (kz := 5) rfl kd_5 rfl ⟨by decide, by decide⟩ rfl wf_4_117 dX4_reason_145 ?_
    refine v_iload_n (f := 1) 1 rfl dX4_reason_148 ?_
    refine v_iaload kd_113 g10 (by decide) dX4_reason_149 ?_
    refine v_aload_n (f := 0) 0 rfl dX4_reason_150 ?_
    refine v_getR (kf := 3) (kz := 3) rfl kd_6 rfl ⟨by decide, by decide⟩ rfl wf_4_35 dX4_reason_151 ?_
    refine v_getR (kf := 6) (kz := 6) rfl kd_5 rfl ⟨by decide, by decide⟩ rfl wf_4_120 dX4_reason_154 ?_
    refine v_iload_n (f := 1) 1 rfl dX4_reason_157 ?_
    refine v_iaload kd_114 g10 (by decide) dX4_reason_158 ?_
    refine v_cVIp (nA := 3) (As := [bI _, bI _, bI _]) (ix := 110) (cf_X4_livesWithin (b_wp_b h)) rfl kd_6 rfl rfl wc_X4_livesWithin wm_4_110 wi_X4_livesWithin ws_X4_livesWithin wn_4 ⟨by decide, by decide, by decide⟩ rfl ⟨by decide, by decide⟩ ⟨by decide, by decide⟩ (Nat.le_of_ble_eq_true rfl) dX4_reason_159 (fun x11 h => ?_)
    refine v_if_ne (tgt := 167) dX4_reason_162 (by decide) (fun c12 => ?_) (fun c12 => ?_)
    · replace h := b_wp_f c12 h
      obtain ⟨g13, h⟩ := b_wp_g h
      refine v_aload_n (f := 0) 0 rfl dX4_reason_167 ?_
      refine v_getR (kf := 3) (kz := 3) rfl kd_6 rfl ⟨by decide, by decide⟩ rfl wf_4_35 dX4_reason_168 ?_
      refine v_getR (kf := 8) (kz := 8) rfl kd_5 rfl ⟨by decide, by decide⟩ rfl wf_4_104 dX4_reason_171 ?_
      refine v_iload_n (f := 1) 1 rfl dX4_reason_174 ?_
      refine v_iaload kd_116 g13 (by decide) dX4_reason_175 ?_
      refine v_iconst ⟨by decide, by decide⟩ dX4_reason_176 ?_
      refine v_icmp_eq (tgt := 193) dX4_reason_177 (by decide) (fun c14 => ?_) (fun c14 => ?_)
      · replace h := b_wp_t c14 h
        refine v_iconst ⟨by decide, by decide⟩ dX4_reason_193 ?_
        refine v_ireturn rfl dX4_reason_194 ⟨by decide, by decide⟩ ?_
        exact ⟨_, rfl, rfl, h⟩
      · replace h := b_wp_f c14 h
        refine v_aload_n (f := 0) 0 rfl dX4_reason_180 ?_
        refine v_iload_n (f := 1) 1 rfl dX4_reason_181 ?_
        refine v_iload_n (f := 2) 2 rfl dX4_reason_182 ?_
        refine v_cVIp (nA := 2) (As := [bI _, bI _]) (ix := 128) (cf_X4_isPageFull (b_wp_b h)) rfl kd_6 rfl rfl wc_X4_isPageFull wm_4_128 wi_X4_isPageFull ws_X4_isPageFull wn_4 ⟨by decide, by decide, by decide⟩ rfl ⟨by decide, by decide⟩ ⟨by decide, by decide⟩ (Nat.le_of_ble_eq_true rfl) dX4_reason_183 (fun x15 h => ?_)
        refine v_if_eq (tgt := 193) dX4_reason_186 (by decide) (fun c16 => ?_) (fun c16 => ?_)
        · replace h := b_wp_t c16 h
          refine v_iconst ⟨by decide, by decide⟩ dX4_reason_193 ?_
          refine v_ireturn rfl dX4_reason_194 ⟨by decide, by decide⟩ ?_
          exact ⟨_, rfl, rfl, h⟩
        · replace h := b_wp_f c16 h
          refine v_iconst ⟨by decide, by decide⟩ dX4_reason_189 ?_
          refine v_goto (tgt := 194) dX4_reason_190 (by decide) ?_
          refine v_ireturn rfl dX4_reason_194 ⟨by decide, by decide⟩ ?_
          exact ⟨_, rfl, rfl, h⟩
    · replace h := b_wp_t c12 h
      refine v_iconst ⟨by decide, by decide⟩ dX4_reason_165 ?_
      refine v_ireturn rfl dX4_reason_166 ⟨by decide, by decide⟩ ?_
      exact ⟨_, rfl, rfl, h⟩
  · replace h := b_wp_t c8 h
    refine v_iconst ⟨by decide, by decide⟩ dX4_reason_129 ?_
    refine v_ireturn rfl dX4_reason_130 ⟨by decide, by decide⟩ ?_
    exact ⟨_, rfl, rfl, h⟩
noncomputable def F_X4_reason_b49 (v1 : Int) (v2 : Int) (M : bM) : Option (Int) :=
  b_bind (F_X7_saying v1 2 M) (fun x3 => if x3 = (-1) then (F_X4_reason_b95 v1 v2 M) else (b_g (0 ≤ v1 ∧ v1 < 120) (b_bind (F_X5_isThereWithin x3 (M 113 v1) (M 114 v1) M) (fun x18 => if x18 = 0 then (some 2) else (F_X4_reason_b95 v1 v2 M)))))
theorem t_X4_reason_b49 {l : Launch} {E : bE} {Q : Int → Prop} {v1 : Int} {v2 : Int} {M : bM} (h : b_wp (F_X4_reason_b49 v1 v2 M) (Q)) : V l E xX4_reason (0, 0) 49 [(0, bR 6), (1, bI v1), (2, bI v2)] [] M (b_pIp M Q) := by
  unfold F_X4_reason_b49 at h
  refine v_aload_n (f := 0) 0 rfl dX4_reason_49 ?_
  refine v_getR (kf := 3) (kz := 3) rfl kd_6 rfl ⟨by decide, by decide⟩ rfl wf_4_35 dX4_reason_50 ?_
  refine v_iload_n (f := 1) 1 rfl dX4_reason_53 ?_
  refine v_iconst ⟨by decide, by decide⟩ dX4_reason_54 ?_
  refine v_cVIp (nA := 2) (As := [bI _, bI _]) (ix := 114) (cf_X7_saying (b_wp_b h)) rfl kd_5 rfl rfl wc_X7_saying wm_4_114 wi_X7_saying ws_X7_saying wn_7 ⟨by decide, by decide, by decide⟩ rfl ⟨by decide, by decide⟩ ⟨by decide, by decide⟩ (Nat.le_of_ble_eq_true rfl) dX4_reason_55 (fun x3 h => ?_)
  refine v_istore_n (g := 3) (i := 3) (ls' := [(3, bI _), (0, bR _), (1, bI _), (2, bI _)]) rfl (by decide) dX4_reason_58 rfl ?_
  refine v_iload_n (f := 3) 0 rfl dX4_reason_59 ?_
  refine v_iconst ⟨by decide, by decide⟩ dX4_reason_60 ?_
  refine v_icmp_eq (tgt := 95) dX4_reason_61 (by decide) (fun c4 => ?_) (fun c4 => ?_)
  · replace h := b_wp_t c4 h
    refine v_sub (ls2 := [(0, bR _), (1, bI _), (2, bI _)]) [1, 2, 3] rfl ?_
    exact t_X4_reason_b95 h
  · replace h := b_wp_f c4 h
    obtain ⟨g17, h⟩ := b_wp_g h
    refine v_aload_n (f := 0) 1 rfl dX4_reason_64 ?_
    refine v_getR (kf := 2) (kz := 2) rfl kd_6 rfl ⟨by decide, by decide⟩ rfl wf_4_31 dX4_reason_65 ?_
    refine v_iload_n (f := 3) 0 rfl dX4_reason_68 ?_
    refine v_aload_n (f := 0) 1 rfl dX4_reason_69 ?_
    refine v_getR (kf := 3) (kz := 3) rfl kd_6 rfl ⟨by decide, by decide⟩ rfl wf_4_35 dX4_reason_70 ?_
    refine v_getR (kf := 5) (kz := 5) rfl kd_5 rfl ⟨by decide, by decide⟩ rfl wf_4_117 dX4_reason_73 ?_
    refine v_iload_n (f := 1) 2 rfl dX4_reason_76 ?_
    refine v_iaload kd_113 g17 (by decide) dX4_reason_77 ?_
    refine v_aload_n (f := 0) 1 rfl dX4_reason_78 ?_
    refine v_getR (kf := 3) (kz := 3) rfl kd_6 rfl ⟨by decide, by decide⟩ rfl wf_4_35 dX4_reason_79 ?_
    refine v_getR (kf := 6) (kz := 6) rfl kd_5 rfl ⟨by decide, by decide⟩ rfl wf_4_120 dX4_reason_82 ?_
    refine v_iload_n (f := 1) 2 rfl dX4_reason_85 ?_
    refine v_iaload kd_114 g17 (by decide) dX4_reason_86 ?_
    refine v_cVIp (nA := 3) (As := [bI _, bI _, bI _]) (ix := 123) (cf_X5_isThereWithin (b_wp_b h)) rfl kd_3 rfl rfl wc_X5_isThereWithin wm_4_123 wi_X5_isThereWithin ws_X5_isThereWithin wn_5 ⟨by decide, by decide, by decide⟩ rfl ⟨by decide, by decide⟩ ⟨by decide, by decide⟩ (Nat.le_of_ble_eq_true rfl) dX4_reason_87 (fun x18 h => ?_)
    refine v_if_ne (tgt := 95) dX4_reason_90 (by decide) (fun c19 => ?_) (fun c19 => ?_)
    · replace h := b_wp_f c19 h
      refine v_sub (ls2 := [(0, bR _), (1, bI _), (2, bI _)]) [1, 2, 3] rfl ?_
      exact t_X4_reason_b95 h
    · replace h := b_wp_t c19 h
      refine v_iconst ⟨by decide, by decide⟩ dX4_reason_93 ?_
      refine v_ireturn rfl dX4_reason_94 ⟨by decide, by decide⟩ ?_
      exact ⟨_, rfl, rfl, h⟩
noncomputable def F_X4_reason (v1 : Int) (v2 : Int) (M : bM) : Option (Int) :=
  b_g (0 ≤ v1 ∧ v1 < 120) (if (M 116 v1) = (-1) then (F_X4_reason_b49 v1 v2 M) else (b_g (0 ≤ v1 ∧ v1 < 120) (b_bind (F_X4_livesWithin (M 116 v1) (M 117 v1) (M 117 v1) M) (fun x21 => if x21 = 0 then (some 1) else (F_X4_reason_b49 v1 v2 M)))))
theorem t_X4_reason {l : Launch} {E : bE} {Q : Int → Prop} {v1 : Int} {v2 : Int} {M : bM} (h : b_wp (F_X4_reason v1 v2 M) (Q)) : V l E xX4_reason (0, 0) 0 [(0, bR 6), (1, bI v1), (2, bI v2)] [] M (b_pIp M Q) := by
  unfold F_X4_reason at h
  obtain ⟨g1, h⟩ := b_wp_g h
  refine v_aload_n (f := 0) 0 rfl dX4_reason_0 ?_
  refine v_getR (kf := 3) (kz := 3) rfl kd_6 rfl ⟨by decide, by decide⟩ rfl wf_4_35 dX4_reason_1 ?_
  refine v_getR (kf := 8) (kz := 8) rfl kd_5 rfl ⟨by decide, by decide⟩ rfl wf_4_104 dX4_reason_4 ?_
  refine v_iload_n (f := 1) 1 rfl dX4_reason_7 ?_
  refine v_iaload kd_116 g1 (by decide) dX4_reason_8 ?_
  refine v_iconst ⟨by decide, by decide⟩ dX4_reason_9 ?_
  refine v_icmp_eq (tgt := 49) dX4_reason_10 (by decide) (fun c2 => ?_) (fun c2 => ?_)
  · replace h := b_wp_t c2 h
    exact t_X4_reason_b49 h
  · replace h := b_wp_f c2 h
    obtain ⟨g20, h⟩ := b_wp_g h
    refine v_aload_n (f := 0) 0 rfl dX4_reason_13 ?_
    refine v_aload_n (f := 0) 0 rfl dX4_reason_14 ?_
    refine v_getR (kf := 3) (kz := 3) rfl kd_6 rfl ⟨by decide, by decide⟩ rfl wf_4_35 dX4_reason_15 ?_
    refine v_getR (kf := 8) (kz := 8) rfl kd_5 rfl ⟨by decide, by decide⟩ rfl wf_4_104 dX4_reason_18 ?_
    refine v_iload_n (f := 1) 1 rfl dX4_reason_21 ?_
    refine v_iaload kd_116 g20 (by decide) dX4_reason_22 ?_
    refine v_aload_n (f := 0) 0 rfl dX4_reason_23 ?_
    refine v_getR (kf := 3) (kz := 3) rfl kd_6 rfl ⟨by decide, by decide⟩ rfl wf_4_35 dX4_reason_24 ?_
    refine v_getR (kf := 9) (kz := 9) rfl kd_5 rfl ⟨by decide, by decide⟩ rfl wf_4_107 dX4_reason_27 ?_
    refine v_iload_n (f := 1) 1 rfl dX4_reason_30 ?_
    refine v_iaload kd_117 g20 (by decide) dX4_reason_31 ?_
    refine v_aload_n (f := 0) 0 rfl dX4_reason_32 ?_
    refine v_getR (kf := 3) (kz := 3) rfl kd_6 rfl ⟨by decide, by decide⟩ rfl wf_4_35 dX4_reason_33 ?_
    refine v_getR (kf := 9) (kz := 9) rfl kd_5 rfl ⟨by decide, by decide⟩ rfl wf_4_107 dX4_reason_36 ?_
    refine v_iload_n (f := 1) 1 rfl dX4_reason_39 ?_
    refine v_iaload kd_117 g20 (by decide) dX4_reason_40 ?_
    refine v_cVIp (nA := 3) (As := [bI _, bI _, bI _]) (ix := 110) (cf_X4_livesWithin (b_wp_b h)) rfl kd_6 rfl rfl wc_X4_livesWithin wm_4_110 wi_X4_livesWithin ws_X4_livesWithin wn_4 ⟨by decide, by decide, by decide⟩ rfl ⟨by decide, by decide⟩ ⟨by decide, by decide⟩ (Nat.le_of_ble_eq_true rfl) dX4_reason_41 (fun x21 h => ?_)
    refine v_if_ne (tgt := 49) dX4_reason_44 (by decide) (fun c22 => ?_) (fun c22 => ?_)
    · replace h := b_wp_f c22 h
      exact t_X4_reason_b49 h
    · replace h := b_wp_t c22 h
      refine v_iconst ⟨by decide, by decide⟩ dX4_reason_47 ?_
      refine v_ireturn rfl dX4_reason_48 ⟨by decide, by decide⟩ ?_
      exact ⟨_, rfl, rfl, h⟩
theorem cf_X4_reason {l : Launch} {E : bE} {M : bM} {v1 : Int} {v2 : Int} {Q : Int → Prop} (h : b_wp (F_X4_reason v1 v2 M) Q) : b_C l E xX4_reason yX4_reason [bR 6, bI v1, bI v2] M (b_pIp M Q) := b_met (by decide) ⟨rfl, rfl⟩ (Nat.le_of_ble_eq_true rfl) (fun _ _ => t_X4_reason h)
abbrev xX11_cant : bX := ("BurntHall", prog_1_method_33_code, 3, (Option.some Jvm.ClassFile.FieldType.int), b_rm 5 0 0, 0, "cant")
abbrev yX11_cant : MethodName := ⟨"BurntHall", "cant", "(II)I"⟩
theorem dX11_cant_0 : decode prog_1_method_33_code 0 = .ok (.aload_n 0, 1) := by decide +kernel
theorem dX11_cant_1 : decode prog_1_method_33_code 1 = .ok (.getfield 42, 3) := by decide +kernel
theorem dX11_cant_4 : decode prog_1_method_33_code 4 = .ok (.iload_n 1, 1) := by decide +kernel
theorem dX11_cant_5 : decode prog_1_method_33_code 5 = .ok (.invokevirtual 265, 3) := by decide +kernel
theorem dX11_cant_8 : decode prog_1_method_33_code 8 = .ok (.ifCond .eq 10, 3) := by decide +kernel
theorem dX11_cant_11 : decode prog_1_method_33_code 11 = .ok (.iload_n 2, 1) := by decide +kernel
theorem dX11_cant_12 : decode prog_1_method_33_code 12 = .ok (.invokestatic 102, 3) := by decide +kernel
theorem dX11_cant_15 : decode prog_1_method_33_code 15 = .ok (.ifCond .ne 6, 3) := by decide +kernel
theorem dX11_cant_18 : decode prog_1_method_33_code 18 = .ok (.bipush (-2), 2) := by decide +kernel
theorem dX11_cant_20 : decode prog_1_method_33_code 20 = .ok (.ireturn, 1) := by decide +kernel
theorem dX11_cant_21 : decode prog_1_method_33_code 21 = .ok (.aload_n 0, 1) := by decide +kernel
theorem dX11_cant_22 : decode prog_1_method_33_code 22 = .ok (.getfield 19, 3) := by decide +kernel
theorem dX11_cant_25 : decode prog_1_method_33_code 25 = .ok (.iload_n 2, 1) := by decide +kernel
theorem dX11_cant_26 : decode prog_1_method_33_code 26 = .ok (.invokevirtual 124, 3) := by decide +kernel
theorem dX11_cant_29 : decode prog_1_method_33_code 29 = .ok (.aload_n 0, 1) := by decide +kernel
theorem dX11_cant_30 : decode prog_1_method_33_code 30 = .ok (.getfield 51, 3) := by decide +kernel
theorem dX11_cant_33 : decode prog_1_method_33_code 33 = .ok (.iload_n 1, 1) := by decide +kernel
theorem dX11_cant_34 : decode prog_1_method_33_code 34 = .ok (.iload_n 2, 1) := by decide +kernel
theorem dX11_cant_35 : decode prog_1_method_33_code 35 = .ok (.invokevirtual 281, 3) := by decide +kernel
theorem dX11_cant_38 : decode prog_1_method_33_code 38 = .ok (.ireturn, 1) := by decide +kernel
noncomputable def F_X11_cant (v1 : Int) (v2 : Int) (M : bM) : Option (Int × bM) :=
  b_bind (F_X7_has v1 M) (fun x1 => if x1 = 0 then (some ((-2), M)) else (b_bind (F_X11_isDay v2 M) (fun x3 => if x3 = 0 then (some ((-2), M)) else (b_bind (F_X8_know v2 M) (fun M5 => b_bind (F_X4_reason v1 v2 M5) (fun x6 => some (x6, M5)))))))
theorem t_X11_cant {l : Launch} {E : bE} {Q : (Int × bM) → Prop} {v1 : Int} {v2 : Int} {M : bM} (h : b_wp (F_X11_cant v1 v2 M) (Q)) : V l E xX11_cant (0, 0) 0 [(0, bR 0), (1, bI v1), (2, bI v2)] [] M (b_pI Q) := by
  unfold F_X11_cant at h
  refine v_aload_n (f := 0) 0 rfl dX11_cant_0 ?_
  refine v_getR (kf := 4) (kz := 4) rfl kd_0 rfl ⟨by decide, by decide⟩ rfl wf_11_42 dX11_cant_1 ?_
  refine v_iload_n (f := 1) 1 rfl dX11_cant_4 ?_
  refine v_cVIp (nA := 1) (As := [bI _]) (ix := 265) (cf_X7_has (b_wp_b h)) rfl kd_5 rfl rfl wc_X7_has wm_11_265 wi_X7_has ws_X7_has wn_7 ⟨by decide, by decide, by decide⟩ rfl ⟨by decide, by decide⟩ ⟨by decide, by decide⟩ (Nat.le_of_ble_eq_true rfl) dX11_cant_5 (fun x1 h => ?_)
  refine v_if_eq (tgt := 18) dX11_cant_8 (by decide) (fun c2 => ?_) (fun c2 => ?_)
  · replace h := b_wp_t c2 h
    refine v_bipush ⟨by decide, by decide⟩ (by decide) dX11_cant_18 ?_
    refine v_ireturn rfl dX11_cant_20 ⟨by decide, by decide⟩ ?_
    exact ⟨_, rfl, h⟩
  · replace h := b_wp_f c2 h
    refine v_iload_n (f := 2) 2 rfl dX11_cant_11 ?_
    refine v_cSIp (nA := 1) (As := [bI _]) (ix := 102) (cf_X11_isDay (b_wp_b h)) rfl wc_X11_isDay wm_11_102 wi_X11_isDay wn_11 ⟨by decide, by decide, by decide⟩ rfl ⟨by decide, by decide⟩ ⟨by decide, by decide⟩ (Nat.le_of_ble_eq_true rfl) dX11_cant_12 (fun x3 h => ?_)
    refine v_if_ne (tgt := 21) dX11_cant_15 (by decide) (fun c4 => ?_) (fun c4 => ?_)
    · replace h := b_wp_f c4 h
      refine v_aload_n (f := 0) 0 rfl dX11_cant_21 ?_
      refine v_getR (kf := 1) (kz := 1) rfl kd_0 rfl ⟨by decide, by decide⟩ rfl wf_11_19 dX11_cant_22 ?_
      refine v_iload_n (f := 2) 2 rfl dX11_cant_25 ?_
      refine v_cVV (nA := 1) (As := [bI _]) (ix := 124) (cf_X8_know (b_wp_b h)) rfl kd_2 rfl rfl wc_X8_know wm_11_124 wi_X8_know ws_X8_know wn_8 ⟨by decide, by decide, by decide⟩ rfl ⟨by decide, by decide⟩ ⟨by decide, by decide⟩ (Nat.le_of_ble_eq_true rfl) dX11_cant_26 (fun M5 h => ?_)
      refine v_aload_n (f := 0) 0 rfl dX11_cant_29 ?_
      refine v_getR (kf := 5) (kz := 5) rfl kd_0 rfl ⟨by decide, by decide⟩ rfl wf_11_51 dX11_cant_30 ?_
      refine v_iload_n (f := 1) 1 rfl dX11_cant_33 ?_
      refine v_iload_n (f := 2) 2 rfl dX11_cant_34 ?_
      refine v_cVIp (nA := 2) (As := [bI _, bI _]) (ix := 281) (cf_X4_reason (b_wp_b h)) rfl kd_6 rfl rfl wc_X4_reason wm_11_281 wi_X4_reason ws_X4_reason wn_4 ⟨by decide, by decide, by decide⟩ rfl ⟨by decide, by decide⟩ ⟨by decide, by decide⟩ (Nat.le_of_ble_eq_true rfl) dX11_cant_35 (fun x6 h => ?_)
      refine v_ireturn rfl dX11_cant_38 ⟨by decide, by decide⟩ ?_
      exact ⟨_, rfl, h⟩
    · replace h := b_wp_t c4 h
      refine v_bipush ⟨by decide, by decide⟩ (by decide) dX11_cant_18 ?_
      refine v_ireturn rfl dX11_cant_20 ⟨by decide, by decide⟩ ?_
      exact ⟨_, rfl, h⟩
theorem cf_X11_cant {l : Launch} {E : bE} {M : bM} {v1 : Int} {v2 : Int} {Q : (Int × bM) → Prop} (h : b_wp (F_X11_cant v1 v2 M) Q) : b_C l E xX11_cant yX11_cant [bR 0, bI v1, bI v2] M (b_pI Q) := b_met (by decide) ⟨rfl, rfl⟩ (Nat.le_of_ble_eq_true rfl) (fun _ _ => t_X11_cant h)
abbrev xX4_findWitnesses : bX := ("BurntHall$Evidence", prog_6_method_7_code, 3, (Option.none : Option Jvm.ClassFile.FieldType), b_rm 1 0 0, 0, "findWitnesses")
abbrev yX4_findWitnesses : MethodName := ⟨"BurntHall$Evidence", "findWitnesses", "(I)V"⟩
theorem dX4_findWitnesses_0 : decode prog_6_method_7_code 0 = .ok (.aload_n 0, 1) := by decide +kernel
theorem dX4_findWitnesses_1 : decode prog_6_method_7_code 1 = .ok (.iconst 0, 1) := by decide +kernel
theorem dX4_findWitnesses_2 : decode prog_6_method_7_code 2 = .ok (.putfield 98, 3) := by decide +kernel
theorem dX4_findWitnesses_5 : decode prog_6_method_7_code 5 = .ok (.iconst 0, 1) := by decide +kernel
theorem dX4_findWitnesses_6 : decode prog_6_method_7_code 6 = .ok (.istore_n 2, 1) := by decide +kernel
theorem dX4_findWitnesses_7 : decode prog_6_method_7_code 7 = .ok (.iload_n 2, 1) := by decide +kernel
theorem dX4_findWitnesses_8 : decode prog_6_method_7_code 8 = .ok (.aload_n 0, 1) := by decide +kernel
theorem dX4_findWitnesses_9 : decode prog_6_method_7_code 9 = .ok (.getfield 35, 3) := by decide +kernel
theorem dX4_findWitnesses_12 : decode prog_6_method_7_code 12 = .ok (.getfield 73, 3) := by decide +kernel
theorem dX4_findWitnesses_15 : decode prog_6_method_7_code 15 = .ok (.if_icmp .ge 51, 3) := by decide +kernel
theorem dX4_findWitnesses_18 : decode prog_6_method_7_code 18 = .ok (.aload_n 0, 1) := by decide +kernel
theorem dX4_findWitnesses_19 : decode prog_6_method_7_code 19 = .ok (.getfield 35, 3) := by decide +kernel
theorem dX4_findWitnesses_22 : decode prog_6_method_7_code 22 = .ok (.getfield 101, 3) := by decide +kernel
theorem dX4_findWitnesses_25 : decode prog_6_method_7_code 25 = .ok (.iload_n 2, 1) := by decide +kernel
theorem dX4_findWitnesses_26 : decode prog_6_method_7_code 26 = .ok (.iaload, 1) := by decide +kernel
theorem dX4_findWitnesses_27 : decode prog_6_method_7_code 27 = .ok (.iload_n 1, 1) := by decide +kernel
theorem dX4_findWitnesses_28 : decode prog_6_method_7_code 28 = .ok (.if_icmp .ne 32, 3) := by decide +kernel
theorem dX4_findWitnesses_31 : decode prog_6_method_7_code 31 = .ok (.aload_n 0, 1) := by decide +kernel
theorem dX4_findWitnesses_32 : decode prog_6_method_7_code 32 = .ok (.getfield 17, 3) := by decide +kernel
theorem dX4_findWitnesses_35 : decode prog_6_method_7_code 35 = .ok (.iload_n 2, 1) := by decide +kernel
theorem dX4_findWitnesses_36 : decode prog_6_method_7_code 36 = .ok (.baload, 1) := by decide +kernel
theorem dX4_findWitnesses_37 : decode prog_6_method_7_code 37 = .ok (.ifCond .eq 23, 3) := by decide +kernel
theorem dX4_findWitnesses_40 : decode prog_6_method_7_code 40 = .ok (.aload_n 0, 1) := by decide +kernel
theorem dX4_findWitnesses_41 : decode prog_6_method_7_code 41 = .ok (.getfield 21, 3) := by decide +kernel
theorem dX4_findWitnesses_44 : decode prog_6_method_7_code 44 = .ok (.aload_n 0, 1) := by decide +kernel
theorem dX4_findWitnesses_45 : decode prog_6_method_7_code 45 = .ok (.getfield 98, 3) := by decide +kernel
theorem dX4_findWitnesses_48 : decode prog_6_method_7_code 48 = .ok (.iload_n 2, 1) := by decide +kernel
theorem dX4_findWitnesses_49 : decode prog_6_method_7_code 49 = .ok (.iastore, 1) := by decide +kernel
theorem dX4_findWitnesses_50 : decode prog_6_method_7_code 50 = .ok (.aload_n 0, 1) := by decide +kernel
theorem dX4_findWitnesses_51 : decode prog_6_method_7_code 51 = .ok (.dup, 1) := by decide +kernel
theorem dX4_findWitnesses_52 : decode prog_6_method_7_code 52 = .ok (.getfield 98, 3) := by decide +kernel
theorem dX4_findWitnesses_55 : decode prog_6_method_7_code 55 = .ok (.iconst 1, 1) := by decide +kernel
theorem dX4_findWitnesses_56 : decode prog_6_method_7_code 56 = .ok (.iadd, 1) := by decide +kernel
theorem dX4_findWitnesses_57 : decode prog_6_method_7_code 57 = .ok (.putfield 98, 3) := by decide +kernel
theorem dX4_findWitnesses_60 : decode prog_6_method_7_code 60 = .ok (.iinc 2 1, 3) := by decide +kernel
theorem dX4_findWitnesses_63 : decode prog_6_method_7_code 63 = .ok (.goto (-56), 3) := by decide +kernel
theorem dX4_findWitnesses_66 : decode prog_6_method_7_code 66 = .ok (.return_, 1) := by decide +kernel
abbrev A_X4_findWitnesses_7 (l : Launch) (E : bE) (Q : bM → Prop) (v1 : Int) : (Int × bM) → Prop := (fun t : Int × bM => V l E xX4_findWitnesses (0, 0) 7 [(0, bR 6), (1, bI v1), (2, bI (t.1))] [] t.2 (b_pV Q))
abbrev X_X4_findWitnesses_7 (l : Launch) (E : bE) (Q : bM → Prop) (v1 : Int) : (bM) → Prop := (fun t : bM => V l E xX4_findWitnesses (0, 0) 66 [] [] t (b_pV Q))
noncomputable def F_X4_findWitnesses_s7 (v1 : Int) (v2 : Int) (M : bM) : Option ((Int × bM) ⊕ (bM)) :=
  if (M 5 0) ≤ v2 then (some (.inr (M))) else (b_g (0 ≤ v2 ∧ v2 < 120) (if (M 111 v2) = v1 then (b_g (0 ≤ v2 ∧ v2 < 120) (if (M 127 v2) = 0 then (b_g (b_i32 (v2 + 1)) (some (.inl ((v2 + 1), M)))) else (b_g (0 ≤ (M 6 11) ∧ (M 6 11) < 120) (b_let (b_up M 128 (M 6 11) v2) (fun M10 => b_g (b_i32 ((M10 6 11) + 1)) (b_let (b_up M10 6 11 ((M10 6 11) + 1)) (fun M12 => b_g (b_i32 (v2 + 1)) (some (.inl ((v2 + 1), M12)))))))))) else (b_g (b_i32 (v2 + 1)) (some (.inl ((v2 + 1), M))))))
theorem t_X4_findWitnesses_s7 {l : Launch} {E : bE} {Q : bM → Prop} {v1 : Int} {v2 : Int} {M : bM} (h : b_wp (F_X4_findWitnesses_s7 v1 v2 M) (Sum.elim (A_X4_findWitnesses_7 l E Q v1) (X_X4_findWitnesses_7 l E Q v1))) : V l E xX4_findWitnesses (0, 0) 7 [(0, bR 6), (1, bI v1), (2, bI v2)] [] M (b_pV Q) := by
  unfold F_X4_findWitnesses_s7 at h
  refine v_iload_n (f := 2) 2 rfl dX4_findWitnesses_7 ?_
  refine v_aload_n (f := 0) 0 rfl dX4_findWitnesses_8 ?_
  refine v_getR (kf := 3) (kz := 3) rfl kd_6 rfl ⟨by decide, by decide⟩ rfl wf_4_35 dX4_findWitnesses_9 ?_
  refine v_getI (kf := 0) (kz := 0) rfl kd_5 rfl ⟨by decide, by decide⟩ rfl wf_4_73 dX4_findWitnesses_12 ?_
  refine v_icmp_ge (tgt := 66) dX4_findWitnesses_15 (by decide) (fun c2 => ?_) (fun c2 => ?_)
  · replace h := b_wp_t c2 h
    refine v_sub (ls2 := []) [] rfl ?_
    exact h
  · replace h := b_wp_f c2 h
    obtain ⟨g3, h⟩ := b_wp_g h
    refine v_aload_n (f := 0) 0 rfl dX4_findWitnesses_18 ?_
    refine v_getR (kf := 3) (kz := 3) rfl kd_6 rfl ⟨by decide, by decide⟩ rfl wf_4_35 dX4_findWitnesses_19 ?_
    refine v_getR (kf := 3) (kz := 3) rfl kd_5 rfl ⟨by decide, by decide⟩ rfl wf_4_101 dX4_findWitnesses_22 ?_
    refine v_iload_n (f := 2) 2 rfl dX4_findWitnesses_25 ?_
    refine v_iaload kd_111 g3 (by decide) dX4_findWitnesses_26 ?_
    refine v_iload_n (f := 1) 1 rfl dX4_findWitnesses_27 ?_
    refine v_icmp_ne (tgt := 60) dX4_findWitnesses_28 (by decide) (fun c4 => ?_) (fun c4 => ?_)
    · replace h := b_wp_f c4 h
      obtain ⟨g5, h⟩ := b_wp_g h
      refine v_iincN (ls' := [(2, bI _), (0, bR _), (1, bI _)]) 2 rfl (by decide) g5 dX4_findWitnesses_60 rfl ?_
      refine v_goto (tgt := 7) dX4_findWitnesses_63 (by decide) ?_
      refine v_sub (ls2 := [(0, bR _), (1, bI _), (2, bI _)]) [1, 2, 0] rfl ?_
      exact h
    · replace h := b_wp_t c4 h
      obtain ⟨g6, h⟩ := b_wp_g h
      refine v_aload_n (f := 0) 0 rfl dX4_findWitnesses_31 ?_
      refine v_getR (kf := 9) (kz := 9) rfl kd_6 rfl ⟨by decide, by decide⟩ rfl wf_4_17 dX4_findWitnesses_32 ?_
      refine v_iload_n (f := 2) 2 rfl dX4_findWitnesses_35 ?_
      refine v_zaload kd_127 g6 (by decide) dX4_findWitnesses_36 ?_
      refine v_if_eq (tgt := 60) dX4_findWitnesses_37 (by decide) (fun c7 => ?_) (fun c7 => ?_)
      · replace h := b_wp_t c7 h
        obtain ⟨g8, h⟩ := b_wp_g h
        refine v_iincN (ls' := [(2, bI _), (0, bR _), (1, bI _)]) 2 rfl (by decide) g8 dX4_findWitnesses_60 rfl ?_
        refine v_goto (tgt := 7) dX4_findWitnesses_63 (by decide) ?_
        refine v_sub (ls2 := [(0, bR _), (1, bI _), (2, bI _)]) [1, 2, 0] rfl ?_
        exact h
      · replace h := b_wp_f c7 h
        obtain ⟨g9, h⟩ := b_wp_g h
        refine v_aload_n (f := 0) 0 rfl dX4_findWitnesses_40 ?_
        refine v_getR (kf := 10) (kz := 10) rfl kd_6 rfl ⟨by decide, by decide⟩ rfl wf_4_21 dX4_findWitnesses_41 ?_
        refine v_aload_n (f := 0) 0 rfl dX4_findWitnesses_44 ?_
        refine v_getI (kf := 11) (kz := 11) rfl kd_6 rfl ⟨by decide, by decide⟩ rfl wf_4_98 dX4_findWitnesses_45 ?_
        refine v_iload_n (f := 2) 2 rfl dX4_findWitnesses_48 ?_
        refine v_iastore kd_128 g9 (by decide) dX4_findWitnesses_49 ?_
        replace h := b_wp_l h
        obtain ⟨g11, h⟩ := b_wp_g h
        refine v_aload_n (f := 0) 0 rfl dX4_findWitnesses_50 ?_
        refine v_dup rfl dX4_findWitnesses_51 ?_
        refine v_getI (kf := 11) (kz := 11) rfl kd_6 rfl ⟨by decide, by decide⟩ rfl wf_4_98 dX4_findWitnesses_52 ?_
        refine v_iconst ⟨by decide, by decide⟩ dX4_findWitnesses_55 ?_
        refine v_iaddN g11 dX4_findWitnesses_56 ?_
        refine v_putI (kf := 11) (kz := 11) rfl kd_6 rfl ⟨by decide, by decide⟩ rfl wf_4_98 rfl rfl dX4_findWitnesses_57 ?_
        replace h := b_wp_l h
        obtain ⟨g13, h⟩ := b_wp_g h
        refine v_iincN (ls' := [(2, bI _), (0, bR _), (1, bI _)]) 2 rfl (by decide) g13 dX4_findWitnesses_60 rfl ?_
        refine v_goto (tgt := 7) dX4_findWitnesses_63 (by decide) ?_
        refine v_sub (ls2 := [(0, bR _), (1, bI _), (2, bI _)]) [1, 2, 0] rfl ?_
        exact h
theorem l_X4_findWitnesses_7 {l : Launch} {E : bE} {Q : bM → Prop} {v1 : Int} {s : Int × bM} (h : b_wp (b_loop (fun t => F_X4_findWitnesses_s7 v1 t.1 t.2) s) (X_X4_findWitnesses_7 l E Q v1)) : A_X4_findWitnesses_7 l E Q v1 s := b_loop_wp (fun t h => t_X4_findWitnesses_s7 h) s h
noncomputable def F_X4_findWitnesses_b66 (M : bM) : Option (bM) :=
  some M
theorem t_X4_findWitnesses_b66 {l : Launch} {E : bE} {Q : bM → Prop} {M : bM} (h : b_wp (F_X4_findWitnesses_b66 M) (Q)) : V l E xX4_findWitnesses (0, 0) 66 [] [] M (b_pV Q) := by
  unfold F_X4_findWitnesses_b66 at h
  refine v_return rfl dX4_findWitnesses_66 ⟨by decide, by decide⟩ ?_
  exact ⟨rfl, h⟩
noncomputable def F_X4_findWitnesses (v1 : Int) (M : bM) : Option (bM) :=
  b_let (b_up M 6 11 0) (fun M1 => b_bind (b_loop (fun t => F_X4_findWitnesses_s7 v1 t.1 t.2) (0, M1)) (fun t => F_X4_findWitnesses_b66 t))
theorem t_X4_findWitnesses {l : Launch} {E : bE} {Q : bM → Prop} {v1 : Int} {M : bM} (h : b_wp (F_X4_findWitnesses v1 M) (Q)) : V l E xX4_findWitnesses (0, 0) 0 [(0, bR 6), (1, bI v1)] [] M (b_pV Q) := by
  unfold F_X4_findWitnesses at h
  refine v_aload_n (f := 0) 0 rfl dX4_findWitnesses_0 ?_
  refine v_iconst ⟨by decide, by decide⟩ dX4_findWitnesses_1 ?_
  refine v_putI (kf := 11) (kz := 11) rfl kd_6 rfl ⟨by decide, by decide⟩ rfl wf_4_98 rfl rfl dX4_findWitnesses_2 ?_
  replace h := b_wp_l h
  refine v_iconst ⟨by decide, by decide⟩ dX4_findWitnesses_5 ?_
  refine v_istore_n (g := 2) (i := 2) (ls' := [(2, bI _), (0, bR _), (1, bI _)]) rfl (by decide) dX4_findWitnesses_6 rfl ?_
  refine v_sub (ls2 := [(0, bR _), (1, bI _), (2, bI _)]) [1, 2, 0] rfl ?_
  refine l_X4_findWitnesses_7 (b_wp_m (fun t h => ?_) (b_wp_b h))
  show V l E xX4_findWitnesses (0, 0) 66 [] [] _ (b_pV Q)
  exact t_X4_findWitnesses_b66 h
theorem cf_X4_findWitnesses {l : Launch} {E : bE} {M : bM} {v1 : Int} {Q : bM → Prop} (h : b_wp (F_X4_findWitnesses v1 M) Q) : b_C l E xX4_findWitnesses yX4_findWitnesses [bR 6, bI v1] M (b_pV Q) := b_met (by decide) ⟨rfl, rfl⟩ (Nat.le_of_ble_eq_true rfl) (fun _ _ => t_X4_findWitnesses h)
abbrev xX4_thing : bX := ("BurntHall$Evidence", prog_6_method_11_code, 4, (Option.some Jvm.ClassFile.FieldType.int), b_rm 3 0 0, 0, "thing")
abbrev yX4_thing : MethodName := ⟨"BurntHall$Evidence", "thing", "(II)I"⟩
theorem dX4_thing_0 : decode prog_6_method_11_code 0 = .ok (.aload_n 0, 1) := by decide +kernel
theorem dX4_thing_1 : decode prog_6_method_11_code 1 = .ok (.getfield 35, 3) := by decide +kernel
theorem dX4_thing_4 : decode prog_6_method_11_code 4 = .ok (.iload_n 1, 1) := by decide +kernel
theorem dX4_thing_5 : decode prog_6_method_11_code 5 = .ok (.iload_n 2, 1) := by decide +kernel
theorem dX4_thing_6 : decode prog_6_method_11_code 6 = .ok (.invokevirtual 114, 3) := by decide +kernel
theorem dX4_thing_9 : decode prog_6_method_11_code 9 = .ok (.istore_n 3, 1) := by decide +kernel
theorem dX4_thing_10 : decode prog_6_method_11_code 10 = .ok (.iload_n 2, 1) := by decide +kernel
theorem dX4_thing_11 : decode prog_6_method_11_code 11 = .ok (.iconst 2, 1) := by decide +kernel
theorem dX4_thing_12 : decode prog_6_method_11_code 12 = .ok (.if_icmp .ne 7, 3) := by decide +kernel
theorem dX4_thing_15 : decode prog_6_method_11_code 15 = .ok (.iload_n 3, 1) := by decide +kernel
theorem dX4_thing_16 : decode prog_6_method_11_code 16 = .ok (.goto 11, 3) := by decide +kernel
theorem dX4_thing_19 : decode prog_6_method_11_code 19 = .ok (.aload_n 0, 1) := by decide +kernel
theorem dX4_thing_20 : decode prog_6_method_11_code 20 = .ok (.getfield 27, 3) := by decide +kernel
theorem dX4_thing_23 : decode prog_6_method_11_code 23 = .ok (.iload_n 3, 1) := by decide +kernel
theorem dX4_thing_24 : decode prog_6_method_11_code 24 = .ok (.invokevirtual 146, 3) := by decide +kernel
theorem dX4_thing_27 : decode prog_6_method_11_code 27 = .ok (.ireturn, 1) := by decide +kernel
noncomputable def F_X4_thing (v1 : Int) (v2 : Int) (M : bM) : Option (Int) :=
  b_bind (F_X7_saying v1 v2 M) (fun x1 => if v2 = 2 then (some x1) else (b_bind (F_X8_groupOf x1 M) (fun x3 => some x3)))
theorem t_X4_thing {l : Launch} {E : bE} {Q : Int → Prop} {v1 : Int} {v2 : Int} {M : bM} (h : b_wp (F_X4_thing v1 v2 M) (Q)) : V l E xX4_thing (0, 0) 0 [(0, bR 6), (1, bI v1), (2, bI v2)] [] M (b_pIp M Q) := by
  unfold F_X4_thing at h
  refine v_aload_n (f := 0) 0 rfl dX4_thing_0 ?_
  refine v_getR (kf := 3) (kz := 3) rfl kd_6 rfl ⟨by decide, by decide⟩ rfl wf_4_35 dX4_thing_1 ?_
  refine v_iload_n (f := 1) 1 rfl dX4_thing_4 ?_
  refine v_iload_n (f := 2) 2 rfl dX4_thing_5 ?_
  refine v_cVIp (nA := 2) (As := [bI _, bI _]) (ix := 114) (cf_X7_saying (b_wp_b h)) rfl kd_5 rfl rfl wc_X7_saying wm_4_114 wi_X7_saying ws_X7_saying wn_7 ⟨by decide, by decide, by decide⟩ rfl ⟨by decide, by decide⟩ ⟨by decide, by decide⟩ (Nat.le_of_ble_eq_true rfl) dX4_thing_6 (fun x1 h => ?_)
  refine v_istore_n (g := 3) (i := 3) (ls' := [(3, bI _), (0, bR _), (1, bI _), (2, bI _)]) rfl (by decide) dX4_thing_9 rfl ?_
  refine v_iload_n (f := 2) 3 rfl dX4_thing_10 ?_
  refine v_iconst ⟨by decide, by decide⟩ dX4_thing_11 ?_
  refine v_icmp_ne (tgt := 19) dX4_thing_12 (by decide) (fun c2 => ?_) (fun c2 => ?_)
  · replace h := b_wp_f c2 h
    refine v_aload_n (f := 0) 1 rfl dX4_thing_19 ?_
    refine v_getR (kf := 1) (kz := 1) rfl kd_6 rfl ⟨by decide, by decide⟩ rfl wf_4_27 dX4_thing_20 ?_
    refine v_iload_n (f := 3) 0 rfl dX4_thing_23 ?_
    refine v_cVIp (nA := 1) (As := [bI _]) (ix := 146) (cf_X8_groupOf (b_wp_b h)) rfl kd_2 rfl rfl wc_X8_groupOf wm_4_146 wi_X8_groupOf ws_X8_groupOf wn_8 ⟨by decide, by decide, by decide⟩ rfl ⟨by decide, by decide⟩ ⟨by decide, by decide⟩ (Nat.le_of_ble_eq_true rfl) dX4_thing_24 (fun x3 h => ?_)
    refine v_ireturn rfl dX4_thing_27 ⟨by decide, by decide⟩ ?_
    exact ⟨_, rfl, rfl, h⟩
  · replace h := b_wp_t c2 h
    refine v_iload_n (f := 3) 0 rfl dX4_thing_15 ?_
    refine v_goto (tgt := 27) dX4_thing_16 (by decide) ?_
    refine v_ireturn rfl dX4_thing_27 ⟨by decide, by decide⟩ ?_
    exact ⟨_, rfl, rfl, h⟩
theorem cf_X4_thing {l : Launch} {E : bE} {M : bM} {v1 : Int} {v2 : Int} {Q : Int → Prop} (h : b_wp (F_X4_thing v1 v2 M) Q) : b_C l E xX4_thing yX4_thing [bR 6, bI v1, bI v2] M (b_pIp M Q) := b_met (by decide) ⟨rfl, rfl⟩ (Nat.le_of_ble_eq_true rfl) (fun _ _ => t_X4_thing h)
abbrev xX4_wasSaid : bX := ("BurntHall$Evidence", prog_6_method_13_code, 5, (Option.some Jvm.ClassFile.FieldType.boolean), b_rm 4 0 0, 0, "wasSaid")
abbrev yX4_wasSaid : MethodName := ⟨"BurntHall$Evidence", "wasSaid", "(III)Z"⟩
theorem dX4_wasSaid_0 : decode prog_6_method_13_code 0 = .ok (.iconst 0, 1) := by decide +kernel
theorem dX4_wasSaid_1 : decode prog_6_method_13_code 1 = .ok (.istore 4, 2) := by decide +kernel
theorem dX4_wasSaid_3 : decode prog_6_method_13_code 3 = .ok (.iload 4, 2) := by decide +kernel
theorem dX4_wasSaid_5 : decode prog_6_method_13_code 5 = .ok (.iload_n 1, 1) := by decide +kernel
theorem dX4_wasSaid_6 : decode prog_6_method_13_code 6 = .ok (.if_icmp .ge 27, 3) := by decide +kernel
theorem dX4_wasSaid_9 : decode prog_6_method_13_code 9 = .ok (.aload_n 0, 1) := by decide +kernel
theorem dX4_wasSaid_10 : decode prog_6_method_13_code 10 = .ok (.aload_n 0, 1) := by decide +kernel
theorem dX4_wasSaid_11 : decode prog_6_method_13_code 11 = .ok (.getfield 21, 3) := by decide +kernel
theorem dX4_wasSaid_14 : decode prog_6_method_13_code 14 = .ok (.iload 4, 2) := by decide +kernel
theorem dX4_wasSaid_16 : decode prog_6_method_13_code 16 = .ok (.iaload, 1) := by decide +kernel
theorem dX4_wasSaid_17 : decode prog_6_method_13_code 17 = .ok (.iload_n 3, 1) := by decide +kernel
theorem dX4_wasSaid_18 : decode prog_6_method_13_code 18 = .ok (.invokevirtual 149, 3) := by decide +kernel
theorem dX4_wasSaid_21 : decode prog_6_method_13_code 21 = .ok (.iload_n 2, 1) := by decide +kernel
theorem dX4_wasSaid_22 : decode prog_6_method_13_code 22 = .ok (.if_icmp .ne 5, 3) := by decide +kernel
theorem dX4_wasSaid_25 : decode prog_6_method_13_code 25 = .ok (.iconst 1, 1) := by decide +kernel
theorem dX4_wasSaid_26 : decode prog_6_method_13_code 26 = .ok (.ireturn, 1) := by decide +kernel
theorem dX4_wasSaid_27 : decode prog_6_method_13_code 27 = .ok (.iinc 4 1, 3) := by decide +kernel
theorem dX4_wasSaid_30 : decode prog_6_method_13_code 30 = .ok (.goto (-27), 3) := by decide +kernel
theorem dX4_wasSaid_33 : decode prog_6_method_13_code 33 = .ok (.iconst 0, 1) := by decide +kernel
theorem dX4_wasSaid_34 : decode prog_6_method_13_code 34 = .ok (.ireturn, 1) := by decide +kernel
abbrev A_X4_wasSaid_3 (l : Launch) (E : bE) (Q : Int → Prop) (v1 : Int) (v2 : Int) (v3 : Int) (M : bM) : (Int) → Prop := (fun t : Int => V l E xX4_wasSaid (0, 0) 3 [(0, bR 6), (1, bI v1), (2, bI v2), (3, bI v3), (4, bI t)] [] M (b_pIp M Q))
abbrev X_X4_wasSaid_3 (l : Launch) (E : bE) (Q : Int → Prop) (v1 : Int) (v2 : Int) (v3 : Int) (M : bM) : ((Unit) ⊕ Int) → Prop := (Sum.elim (fun t : Unit => V l E xX4_wasSaid (0, 0) 33 [] [] M (b_pIp M Q)) Q)
noncomputable def F_X4_wasSaid_s3 (v1 : Int) (v2 : Int) (v3 : Int) (v4 : Int) (M : bM) : Option ((Int) ⊕ ((Unit) ⊕ Int)) :=
  if v1 ≤ v4 then (some (.inr (.inl ()))) else (b_g (0 ≤ v4 ∧ v4 < 120) (b_bind (F_X4_thing (M 128 v4) v3 M) (fun x3 => if x3 = v2 then (some (.inr (.inr 1))) else (b_g (b_i32 (v4 + 1)) (some (.inl ((v4 + 1))))))))
theorem t_X4_wasSaid_s3 {l : Launch} {E : bE} {Q : Int → Prop} {v1 : Int} {v2 : Int} {v3 : Int} {v4 : Int} {M : bM} (h : b_wp (F_X4_wasSaid_s3 v1 v2 v3 v4 M) (Sum.elim (A_X4_wasSaid_3 l E Q v1 v2 v3 M) (X_X4_wasSaid_3 l E Q v1 v2 v3 M))) : V l E xX4_wasSaid (0, 0) 3 [(0, bR 6), (1, bI v1), (2, bI v2), (3, bI v3), (4, bI v4)] [] M (b_pIp M Q) := by
  unfold F_X4_wasSaid_s3 at h
  refine v_iload (i := 4) 4 rfl dX4_wasSaid_3 ?_
  refine v_iload_n (f := 1) 1 rfl dX4_wasSaid_5 ?_
  refine v_icmp_ge (tgt := 33) dX4_wasSaid_6 (by decide) (fun c1 => ?_) (fun c1 => ?_)
  · replace h := b_wp_t c1 h
    refine v_sub (ls2 := []) [] rfl ?_
    exact h
  · replace h := b_wp_f c1 h
    obtain ⟨g2, h⟩ := b_wp_g h
    refine v_aload_n (f := 0) 0 rfl dX4_wasSaid_9 ?_
    refine v_aload_n (f := 0) 0 rfl dX4_wasSaid_10 ?_
    refine v_getR (kf := 10) (kz := 10) rfl kd_6 rfl ⟨by decide, by decide⟩ rfl wf_4_21 dX4_wasSaid_11 ?_
    refine v_iload (i := 4) 4 rfl dX4_wasSaid_14 ?_
    refine v_iaload kd_128 g2 (by decide) dX4_wasSaid_16 ?_
    refine v_iload_n (f := 3) 3 rfl dX4_wasSaid_17 ?_
    refine v_cVIp (nA := 2) (As := [bI _, bI _]) (ix := 149) (cf_X4_thing (b_wp_b h)) rfl kd_6 rfl rfl wc_X4_thing wm_4_149 wi_X4_thing ws_X4_thing wn_4 ⟨by decide, by decide, by decide⟩ rfl ⟨by decide, by decide⟩ ⟨by decide, by decide⟩ (Nat.le_of_ble_eq_true rfl) dX4_wasSaid_18 (fun x3 h => ?_)
    refine v_iload_n (f := 2) 2 rfl dX4_wasSaid_21 ?_
    refine v_icmp_ne (tgt := 27) dX4_wasSaid_22 (by decide) (fun c4 => ?_) (fun c4 => ?_)
    · replace h := b_wp_f c4 h
      obtain ⟨g5, h⟩ := b_wp_g h
      refine v_iincN (ls' := [(4, bI _), (0, bR _), (1, bI _), (2, bI _), (3, bI _)]) 4 rfl (by decide) g5 dX4_wasSaid_27 rfl ?_
      refine v_goto (tgt := 3) dX4_wasSaid_30 (by decide) ?_
      refine v_sub (ls2 := [(0, bR _), (1, bI _), (2, bI _), (3, bI _), (4, bI _)]) [1, 2, 3, 4, 0] rfl ?_
      exact h
    · replace h := b_wp_t c4 h
      refine v_iconst ⟨by decide, by decide⟩ dX4_wasSaid_25 ?_
      refine v_zreturn rfl (Or.inr rfl) dX4_wasSaid_26 ⟨by decide, by decide⟩ ?_
      exact ⟨_, rfl, rfl, h⟩
theorem l_X4_wasSaid_3 {l : Launch} {E : bE} {Q : Int → Prop} {v1 : Int} {v2 : Int} {v3 : Int} {M : bM} {s : Int} (h : b_wp (b_loop (fun t => F_X4_wasSaid_s3 v1 v2 v3 t M) s) (X_X4_wasSaid_3 l E Q v1 v2 v3 M)) : A_X4_wasSaid_3 l E Q v1 v2 v3 M s := b_loop_wp (fun t h => t_X4_wasSaid_s3 h) s h
noncomputable def F_X4_wasSaid_b33 (M : bM) : Option (Int) :=
  some 0
theorem t_X4_wasSaid_b33 {l : Launch} {E : bE} {Q : Int → Prop} {M : bM} (h : b_wp (F_X4_wasSaid_b33 M) (Q)) : V l E xX4_wasSaid (0, 0) 33 [] [] M (b_pIp M Q) := by
  unfold F_X4_wasSaid_b33 at h
  refine v_iconst ⟨by decide, by decide⟩ dX4_wasSaid_33 ?_
  refine v_zreturn rfl (Or.inl rfl) dX4_wasSaid_34 ⟨by decide, by decide⟩ ?_
  exact ⟨_, rfl, rfl, h⟩
noncomputable def F_X4_wasSaid (v1 : Int) (v2 : Int) (v3 : Int) (M : bM) : Option (Int) :=
  b_bind (b_loop (fun t => F_X4_wasSaid_s3 v1 v2 v3 t M) (0)) (Sum.elim (fun t => F_X4_wasSaid_b33 M) some)
theorem t_X4_wasSaid {l : Launch} {E : bE} {Q : Int → Prop} {v1 : Int} {v2 : Int} {v3 : Int} {M : bM} (h : b_wp (F_X4_wasSaid v1 v2 v3 M) (Q)) : V l E xX4_wasSaid (0, 0) 0 [(0, bR 6), (1, bI v1), (2, bI v2), (3, bI v3)] [] M (b_pIp M Q) := by
  unfold F_X4_wasSaid at h
  refine v_iconst ⟨by decide, by decide⟩ dX4_wasSaid_0 ?_
  refine v_istore (i := 4) (ls' := [(4, bI _), (0, bR _), (1, bI _), (2, bI _), (3, bI _)]) (by decide) dX4_wasSaid_1 rfl ?_
  refine v_sub (ls2 := [(0, bR _), (1, bI _), (2, bI _), (3, bI _), (4, bI _)]) [1, 2, 3, 4, 0] rfl ?_
  refine l_X4_wasSaid_3 (b_wp_m (fun t h => ?_) (b_wp_b h))
  cases t with
  | inr o => exact h
  | inl t =>
    show V l E xX4_wasSaid (0, 0) 33 [] [] _ (b_pIp M Q)
    replace h := b_wp_inl h
    exact t_X4_wasSaid_b33 h
theorem cf_X4_wasSaid {l : Launch} {E : bE} {M : bM} {v1 : Int} {v2 : Int} {v3 : Int} {Q : Int → Prop} (h : b_wp (F_X4_wasSaid v1 v2 v3 M) Q) : b_C l E xX4_wasSaid yX4_wasSaid [bR 6, bI v1, bI v2, bI v3] M (b_pIp M Q) := b_met (by decide) ⟨rfl, rfl⟩ (Nat.le_of_ble_eq_true rfl) (fun _ _ => t_X4_wasSaid h)
abbrev xX4_actThen : bX := ("BurntHall$Evidence", prog_6_method_5_code, 1, (Option.some (Jvm.ClassFile.FieldType.object "BurntHall$Act")), b_rm 2 0 0, 0, "actThen")
abbrev yX4_actThen : MethodName := ⟨"BurntHall$Evidence", "actThen", "()LBurntHall$Act;"⟩
theorem dX4_actThen_0 : decode prog_6_method_5_code 0 = .ok (.aload_n 0, 1) := by decide +kernel
theorem dX4_actThen_1 : decode prog_6_method_5_code 1 = .ok (.getfield 39, 3) := by decide +kernel
theorem dX4_actThen_4 : decode prog_6_method_5_code 4 = .ok (.aload_n 0, 1) := by decide +kernel
theorem dX4_actThen_5 : decode prog_6_method_5_code 5 = .ok (.getfield 51, 3) := by decide +kernel
theorem dX4_actThen_8 : decode prog_6_method_5_code 8 = .ok (.invokevirtual 54, 3) := by decide +kernel
theorem dX4_actThen_11 : decode prog_6_method_5_code 11 = .ok (.areturn, 1) := by decide +kernel
noncomputable def F_X4_actThen (M : bM) : Option (Nat) :=
  b_bind (F_X1_slot (M 6 7) M) (fun x1 => some x1)
theorem t_X4_actThen {l : Launch} {E : bE} {Q : Nat → Prop} {M : bM} (h : b_wp (F_X4_actThen M) (Q)) : V l E xX4_actThen (0, 0) 0 [(0, bR 6)] [] M (b_pAp M Q) := by
  unfold F_X4_actThen at h
  refine v_aload_n (f := 0) 0 rfl dX4_actThen_0 ?_
  refine v_getR (kf := 4) (kz := 4) rfl kd_6 rfl ⟨by decide, by decide⟩ rfl wf_4_39 dX4_actThen_1 ?_
  refine v_aload_n (f := 0) 0 rfl dX4_actThen_4 ?_
  refine v_getI (kf := 7) (kz := 7) rfl kd_6 rfl ⟨by decide, by decide⟩ rfl wf_4_51 dX4_actThen_5 ?_
  refine v_cVAp (nA := 1) (As := [bI _]) (ix := 54) (cf_X1_slot (b_wp_b h)) rfl kd_4 rfl rfl wc_X1_slot wm_4_54 wi_X1_slot ws_X1_slot wn_1 ⟨by decide, by decide, by decide⟩ rfl ⟨by decide, by decide⟩ ⟨by decide, by decide⟩ (Nat.le_of_ble_eq_true rfl) dX4_actThen_8 (fun x1 h => ?_)
  refine v_areturn rfl (Or.inl ⟨_, rfl⟩) dX4_actThen_11 ⟨by decide, by decide⟩ ?_
  exact ⟨_, rfl, rfl, h⟩
theorem cf_X4_actThen {l : Launch} {E : bE} {M : bM} {Q : Nat → Prop} (h : b_wp (F_X4_actThen M) Q) : b_C l E xX4_actThen yX4_actThen [bR 6] M (b_pAp M Q) := b_met (by decide) ⟨rfl, rfl⟩ (Nat.le_of_ble_eq_true rfl) (fun _ _ => t_X4_actThen h)
abbrev xX4_greatestOaths : bX := ("BurntHall$Evidence", prog_6_method_15_code, 7, (Option.some Jvm.ClassFile.FieldType.int), b_rm 3 0 0, 0, "greatestOaths")
abbrev yX4_greatestOaths : MethodName := ⟨"BurntHall$Evidence", "greatestOaths", "(I)I"⟩
theorem dX4_greatestOaths_0 : decode prog_6_method_15_code 0 = .ok (.iconst 0, 1) := by decide +kernel
theorem dX4_greatestOaths_1 : decode prog_6_method_15_code 1 = .ok (.istore_n 2, 1) := by decide +kernel
theorem dX4_greatestOaths_2 : decode prog_6_method_15_code 2 = .ok (.iload_n 1, 1) := by decide +kernel
theorem dX4_greatestOaths_3 : decode prog_6_method_15_code 3 = .ok (.aload_n 0, 1) := by decide +kernel
theorem dX4_greatestOaths_4 : decode prog_6_method_15_code 4 = .ok (.invokevirtual 158, 3) := by decide +kernel
theorem dX4_greatestOaths_7 : decode prog_6_method_15_code 7 = .ok (.bipush 7, 2) := by decide +kernel
theorem dX4_greatestOaths_9 : decode prog_6_method_15_code 9 = .ok (.invokevirtual 164, 3) := by decide +kernel
theorem dX4_greatestOaths_12 : decode prog_6_method_15_code 12 = .ok (.invokestatic 93, 3) := by decide +kernel
theorem dX4_greatestOaths_15 : decode prog_6_method_15_code 15 = .ok (.istore_n 3, 1) := by decide +kernel
theorem dX4_greatestOaths_16 : decode prog_6_method_15_code 16 = .ok (.iconst 0, 1) := by decide +kernel
theorem dX4_greatestOaths_17 : decode prog_6_method_15_code 17 = .ok (.istore 4, 2) := by decide +kernel
theorem dX4_greatestOaths_19 : decode prog_6_method_15_code 19 = .ok (.iload 4, 2) := by decide +kernel
theorem dX4_greatestOaths_21 : decode prog_6_method_15_code 21 = .ok (.iload_n 3, 1) := by decide +kernel
theorem dX4_greatestOaths_22 : decode prog_6_method_15_code 22 = .ok (.if_icmp .ge 80, 3) := by decide +kernel
theorem dX4_greatestOaths_25 : decode prog_6_method_15_code 25 = .ok (.iload 4, 2) := by decide +kernel
theorem dX4_greatestOaths_27 : decode prog_6_method_15_code 27 = .ok (.istore 5, 2) := by decide +kernel
theorem dX4_greatestOaths_29 : decode prog_6_method_15_code 29 = .ok (.iload 4, 2) := by decide +kernel
theorem dX4_greatestOaths_31 : decode prog_6_method_15_code 31 = .ok (.iconst 1, 1) := by decide +kernel
theorem dX4_greatestOaths_32 : decode prog_6_method_15_code 32 = .ok (.iadd, 1) := by decide +kernel
theorem dX4_greatestOaths_33 : decode prog_6_method_15_code 33 = .ok (.istore 6, 2) := by decide +kernel
theorem dX4_greatestOaths_35 : decode prog_6_method_15_code 35 = .ok (.iload 6, 2) := by decide +kernel
theorem dX4_greatestOaths_37 : decode prog_6_method_15_code 37 = .ok (.iload_n 1, 1) := by decide +kernel
theorem dX4_greatestOaths_38 : decode prog_6_method_15_code 38 = .ok (.if_icmp .ge 30, 3) := by decide +kernel
theorem dX4_greatestOaths_41 : decode prog_6_method_15_code 41 = .ok (.aload_n 0, 1) := by decide +kernel
theorem dX4_greatestOaths_42 : decode prog_6_method_15_code 42 = .ok (.getfield 24, 3) := by decide +kernel
theorem dX4_greatestOaths_45 : decode prog_6_method_15_code 45 = .ok (.iload 6, 2) := by decide +kernel
theorem dX4_greatestOaths_47 : decode prog_6_method_15_code 47 = .ok (.iaload, 1) := by decide +kernel
theorem dX4_greatestOaths_48 : decode prog_6_method_15_code 48 = .ok (.aload_n 0, 1) := by decide +kernel
theorem dX4_greatestOaths_49 : decode prog_6_method_15_code 49 = .ok (.getfield 24, 3) := by decide +kernel
theorem dX4_greatestOaths_52 : decode prog_6_method_15_code 52 = .ok (.iload 5, 2) := by decide +kernel
theorem dX4_greatestOaths_54 : decode prog_6_method_15_code 54 = .ok (.iaload, 1) := by decide +kernel
theorem dX4_greatestOaths_55 : decode prog_6_method_15_code 55 = .ok (.if_icmp .le 7, 3) := by decide +kernel
theorem dX4_greatestOaths_58 : decode prog_6_method_15_code 58 = .ok (.iload 6, 2) := by decide +kernel
theorem dX4_greatestOaths_60 : decode prog_6_method_15_code 60 = .ok (.istore 5, 2) := by decide +kernel
theorem dX4_greatestOaths_62 : decode prog_6_method_15_code 62 = .ok (.iinc 6 1, 3) := by decide +kernel
theorem dX4_greatestOaths_65 : decode prog_6_method_15_code 65 = .ok (.goto (-30), 3) := by decide +kernel
theorem dX4_greatestOaths_68 : decode prog_6_method_15_code 68 = .ok (.aload_n 0, 1) := by decide +kernel
theorem dX4_greatestOaths_69 : decode prog_6_method_15_code 69 = .ok (.getfield 24, 3) := by decide +kernel
theorem dX4_greatestOaths_72 : decode prog_6_method_15_code 72 = .ok (.iload 5, 2) := by decide +kernel
theorem dX4_greatestOaths_74 : decode prog_6_method_15_code 74 = .ok (.iaload, 1) := by decide +kernel
theorem dX4_greatestOaths_75 : decode prog_6_method_15_code 75 = .ok (.istore 6, 2) := by decide +kernel
theorem dX4_greatestOaths_77 : decode prog_6_method_15_code 77 = .ok (.aload_n 0, 1) := by decide +kernel
theorem dX4_greatestOaths_78 : decode prog_6_method_15_code 78 = .ok (.getfield 24, 3) := by decide +kernel
theorem dX4_greatestOaths_81 : decode prog_6_method_15_code 81 = .ok (.iload 5, 2) := by decide +kernel
theorem dX4_greatestOaths_83 : decode prog_6_method_15_code 83 = .ok (.aload_n 0, 1) := by decide +kernel
theorem dX4_greatestOaths_84 : decode prog_6_method_15_code 84 = .ok (.getfield 24, 3) := by decide +kernel
theorem dX4_greatestOaths_87 : decode prog_6_method_15_code 87 = .ok (.iload 4, 2) := by decide +kernel
theorem dX4_greatestOaths_89 : decode prog_6_method_15_code 89 = .ok (.iaload, 1) := by decide +kernel
theorem dX4_greatestOaths_90 : decode prog_6_method_15_code 90 = .ok (.iastore, 1) := by decide +kernel
theorem dX4_greatestOaths_91 : decode prog_6_method_15_code 91 = .ok (.iload_n 2, 1) := by decide +kernel
theorem dX4_greatestOaths_92 : decode prog_6_method_15_code 92 = .ok (.iload 6, 2) := by decide +kernel
theorem dX4_greatestOaths_94 : decode prog_6_method_15_code 94 = .ok (.iadd, 1) := by decide +kernel
theorem dX4_greatestOaths_95 : decode prog_6_method_15_code 95 = .ok (.istore_n 2, 1) := by decide +kernel
theorem dX4_greatestOaths_96 : decode prog_6_method_15_code 96 = .ok (.iinc 4 1, 3) := by decide +kernel
theorem dX4_greatestOaths_99 : decode prog_6_method_15_code 99 = .ok (.goto (-80), 3) := by decide +kernel
theorem dX4_greatestOaths_102 : decode prog_6_method_15_code 102 = .ok (.iload_n 2, 1) := by decide +kernel
theorem dX4_greatestOaths_103 : decode prog_6_method_15_code 103 = .ok (.ireturn, 1) := by decide +kernel
abbrev A_X4_greatestOaths_19 (l : Launch) (E : bE) (Q : (Int × bM) → Prop) (v1 : Int) (v3 : Int) : (Int × Int × bM) → Prop := (fun t : Int × Int × bM => V l E xX4_greatestOaths (0, 0) 19 [(0, bR 6), (1, bI v1), (2, bI (t.1)), (3, bI v3), (4, bI (t.2.1))] [] t.2.2 (b_pI Q))
abbrev X_X4_greatestOaths_19 (l : Launch) (E : bE) (Q : (Int × bM) → Prop) (v1 : Int) (v3 : Int) : (Int × bM) → Prop := (fun t : Int × bM => V l E xX4_greatestOaths (0, 0) 102 [(2, bI (t.1))] [] t.2 (b_pI Q))
abbrev A_X4_greatestOaths_35 (l : Launch) (E : bE) (Q : (Int × bM) → Prop) (v1 : Int) (v2 : Int) (v3 : Int) (v4 : Int) (M : bM) : (Int × Int) → Prop := (fun t : Int × Int => V l E xX4_greatestOaths (0, 0) 35 [(0, bR 6), (1, bI v1), (2, bI v2), (3, bI v3), (4, bI v4), (5, bI (t.1)), (6, bI (t.2))] [] M (b_pI Q))
abbrev X_X4_greatestOaths_35 (l : Launch) (E : bE) (Q : (Int × bM) → Prop) (v1 : Int) (v2 : Int) (v3 : Int) (v4 : Int) (M : bM) : (Int) → Prop := (fun t : Int => V l E xX4_greatestOaths (0, 0) 68 [(0, bR 6), (1, bI v1), (2, bI v2), (3, bI v3), (4, bI v4), (5, bI t)] [] M (b_pI Q))
noncomputable def F_X4_greatestOaths_s35 (v1 : Int) (v2 : Int) (v3 : Int) (v4 : Int) (v5 : Int) (v6 : Int) (M : bM) : Option ((Int × Int) ⊕ (Int)) :=
  if v1 ≤ v6 then (some (.inr (v5))) else (b_g ((0 ≤ v6 ∧ v6 < 120) ∧ (0 ≤ v5 ∧ v5 < 120)) (if (M 129 v6) ≤ (M 129 v5) then (b_g (b_i32 (v6 + 1)) (some (.inl (v5, (v6 + 1))))) else (b_g (b_i32 (v6 + 1)) (some (.inl (v6, (v6 + 1)))))))
theorem t_X4_greatestOaths_s35 {l : Launch} {E : bE} {Q : (Int × bM) → Prop} {v1 : Int} {v2 : Int} {v3 : Int} {v4 : Int} {v5 : Int} {v6 : Int} {M : bM} (h : b_wp (F_X4_greatestOaths_s35 v1 v2 v3 v4 v5 v6 M) (Sum.elim (A_X4_greatestOaths_35 l E Q v1 v2 v3 v4 M) (X_X4_greatestOaths_35 l E Q v1 v2 v3 v4 M))) : V l E xX4_greatestOaths (0, 0) 35 [(0, bR 6), (1, bI v1), (2, bI v2), (3, bI v3), (4, bI v4), (5, bI v5), (6, bI v6)] [] M (b_pI Q) := by
  unfold F_X4_greatestOaths_s35 at h
  refine v_iload (i := 6) 6 rfl dX4_greatestOaths_35 ?_
  refine v_iload_n (f := 1) 1 rfl dX4_greatestOaths_37 ?_
  refine v_icmp_ge (tgt := 68) dX4_greatestOaths_38 (by decide) (fun c7 => ?_) (fun c7 => ?_)
  · replace h := b_wp_t c7 h
    refine v_sub (ls2 := [(0, bR _), (1, bI _), (2, bI _), (3, bI _), (4, bI _), (5, bI _)]) [0, 1, 2, 3, 4, 5] rfl ?_
    exact h
  · replace h := b_wp_f c7 h
    obtain ⟨⟨g8, g9⟩, h⟩ := b_wp_g h
    refine v_aload_n (f := 0) 0 rfl dX4_greatestOaths_41 ?_
    refine v_getR (kf := 12) (kz := 12) rfl kd_6 rfl ⟨by decide, by decide⟩ rfl wf_4_24 dX4_greatestOaths_42 ?_
    refine v_iload (i := 6) 6 rfl dX4_greatestOaths_45 ?_
    refine v_iaload kd_129 g8 (by decide) dX4_greatestOaths_47 ?_
    refine v_aload_n (f := 0) 0 rfl dX4_greatestOaths_48 ?_
    refine v_getR (kf := 12) (kz := 12) rfl kd_6 rfl ⟨by decide, by decide⟩ rfl wf_4_24 dX4_greatestOaths_49 ?_
    refine v_iload (i := 5) 5 rfl dX4_greatestOaths_52 ?_
    refine v_iaload kd_129 g9 (by decide) dX4_greatestOaths_54 ?_
    refine v_icmp_le (tgt := 62) dX4_greatestOaths_55 (by decide) (fun c10 => ?_) (fun c10 => ?_)
    · replace h := b_wp_t c10 h
      obtain ⟨g11, h⟩ := b_wp_g h
      refine v_iincN (ls' := [(6, bI _), (0, bR _), (1, bI _), (2, bI _), (3, bI _), (4, bI _), (5, bI _)]) 6 rfl (by decide) g11 dX4_greatestOaths_62 rfl ?_
      refine v_goto (tgt := 35) dX4_greatestOaths_65 (by decide) ?_
      refine v_sub (ls2 := [(0, bR _), (1, bI _), (2, bI _), (3, bI _), (4, bI _), (5, bI _), (6, bI _)]) [1, 2, 3, 4, 5, 6, 0] rfl ?_
      exact h
    · replace h := b_wp_f c10 h
      obtain ⟨g12, h⟩ := b_wp_g h
      refine v_iload (i := 6) 6 rfl dX4_greatestOaths_58 ?_
      refine v_istore (i := 5) (ls' := [(5, bI _), (0, bR _), (1, bI _), (2, bI _), (3, bI _), (4, bI _), (6, bI _)]) (by decide) dX4_greatestOaths_60 rfl ?_
      refine v_iincN (ls' := [(6, bI _), (5, bI _), (0, bR _), (1, bI _), (2, bI _), (3, bI _), (4, bI _)]) 6 rfl (by decide) g12 dX4_greatestOaths_62 rfl ?_
      refine v_goto (tgt := 35) dX4_greatestOaths_65 (by decide) ?_
      refine v_sub (ls2 := [(0, bR _), (1, bI _), (2, bI _), (3, bI _), (4, bI _), (5, bI _), (6, bI _)]) [2, 3, 4, 5, 6, 1, 0] rfl ?_
      exact h
theorem l_X4_greatestOaths_35 {l : Launch} {E : bE} {Q : (Int × bM) → Prop} {v1 : Int} {v2 : Int} {v3 : Int} {v4 : Int} {M : bM} {s : Int × Int} (h : b_wp (b_loop (fun t => F_X4_greatestOaths_s35 v1 v2 v3 v4 t.1 t.2 M) s) (X_X4_greatestOaths_35 l E Q v1 v2 v3 v4 M)) : A_X4_greatestOaths_35 l E Q v1 v2 v3 v4 M s := b_loop_wp (fun t h => t_X4_greatestOaths_s35 h) s h
noncomputable def F_X4_greatestOaths_b68 (v1 : Int) (v2 : Int) (v3 : Int) (v4 : Int) (v5 : Int) (M : bM) : Option ((Int × Int × bM) ⊕ (Int × bM)) :=
  b_g (0 ≤ v5 ∧ v5 < 120) (b_let ((M 129 v5)) (fun y14 => b_g ((0 ≤ v4 ∧ v4 < 120) ∧ (0 ≤ v5 ∧ v5 < 120)) (b_let (b_up M 129 v5 (M 129 v4)) (fun M17 => b_g (b_i32 (v2 + y14)) (b_let ((v2 + y14)) (fun y19 => b_g (b_i32 (v4 + 1)) (some (.inl (y19, (v4 + 1), M17)))))))))
theorem t_X4_greatestOaths_b68 {l : Launch} {E : bE} {Q : (Int × bM) → Prop} {v1 : Int} {v2 : Int} {v3 : Int} {v4 : Int} {v5 : Int} {M : bM} (h : b_wp (F_X4_greatestOaths_b68 v1 v2 v3 v4 v5 M) (Sum.elim (A_X4_greatestOaths_19 l E Q v1 v3) (X_X4_greatestOaths_19 l E Q v1 v3))) : V l E xX4_greatestOaths (0, 0) 68 [(0, bR 6), (1, bI v1), (2, bI v2), (3, bI v3), (4, bI v4), (5, bI v5)] [] M (b_pI Q) := by
  unfold F_X4_greatestOaths_b68 at h
  obtain ⟨g13, h⟩ := b_wp_g h
  refine v_aload_n (f := 0) 0 rfl dX4_greatestOaths_68 ?_
  refine v_getR (kf := 12) (kz := 12) rfl kd_6 rfl ⟨by decide, by decide⟩ rfl wf_4_24 dX4_greatestOaths_69 ?_
  refine v_iload (i := 5) 5 rfl dX4_greatestOaths_72 ?_
  refine v_iaload kd_129 g13 (by decide) dX4_greatestOaths_74 ?_
  replace h := b_wp_l h
  obtain ⟨⟨g15, g16⟩, h⟩ := b_wp_g h
  refine v_istore (i := 6) (ls' := [(6, bI _), (0, bR _), (1, bI _), (2, bI _), (3, bI _), (4, bI _), (5, bI _)]) (by decide) dX4_greatestOaths_75 rfl ?_
  refine v_aload_n (f := 0) 1 rfl dX4_greatestOaths_77 ?_
  refine v_getR (kf := 12) (kz := 12) rfl kd_6 rfl ⟨by decide, by decide⟩ rfl wf_4_24 dX4_greatestOaths_78 ?_
  refine v_iload (i := 5) 6 rfl dX4_greatestOaths_81 ?_
  refine v_aload_n (f := 0) 1 rfl dX4_greatestOaths_83 ?_
  refine v_getR (kf := 12) (kz := 12) rfl kd_6 rfl ⟨by decide, by decide⟩ rfl wf_4_24 dX4_greatestOaths_84 ?_
  refine v_iload (i := 4) 5 rfl dX4_greatestOaths_87 ?_
  refine v_iaload kd_129 g15 (by decide) dX4_greatestOaths_89 ?_
  refine v_iastore kd_129 g16 (by decide) dX4_greatestOaths_90 ?_
  replace h := b_wp_l h
  obtain ⟨g18, h⟩ := b_wp_g h
  refine v_iload_n (f := 2) 3 rfl dX4_greatestOaths_91 ?_
  refine v_iload (i := 6) 0 rfl dX4_greatestOaths_92 ?_
  refine v_iaddN g18 dX4_greatestOaths_94 ?_
  replace h := b_wp_l h
  obtain ⟨g20, h⟩ := b_wp_g h
  refine v_istore_n (g := 2) (i := 2) (ls' := [(2, bI _), (6, bI _), (0, bR _), (1, bI _), (3, bI _), (4, bI _), (5, bI _)]) rfl (by decide) dX4_greatestOaths_95 rfl ?_
  refine v_iincN (ls' := [(4, bI _), (2, bI _), (6, bI _), (0, bR _), (1, bI _), (3, bI _), (5, bI _)]) 5 rfl (by decide) g20 dX4_greatestOaths_96 rfl ?_
  refine v_goto (tgt := 19) dX4_greatestOaths_99 (by decide) ?_
  refine v_sub (ls2 := [(0, bR _), (1, bI _), (2, bI _), (3, bI _), (4, bI _)]) [3, 4, 1, 5, 0] rfl ?_
  exact h
noncomputable def F_X4_greatestOaths_s19 (v1 : Int) (v2 : Int) (v3 : Int) (v4 : Int) (M : bM) : Option ((Int × Int × bM) ⊕ (Int × bM)) :=
  if v3 ≤ v4 then (some (.inr (v2, M))) else (b_g (b_i32 (v4 + 1)) (b_bind (b_loop (fun t => F_X4_greatestOaths_s35 v1 v2 v3 v4 t.1 t.2 M) (v4, (v4 + 1))) (fun t => F_X4_greatestOaths_b68 v1 v2 v3 v4 t M)))
theorem t_X4_greatestOaths_s19 {l : Launch} {E : bE} {Q : (Int × bM) → Prop} {v1 : Int} {v2 : Int} {v3 : Int} {v4 : Int} {M : bM} (h : b_wp (F_X4_greatestOaths_s19 v1 v2 v3 v4 M) (Sum.elim (A_X4_greatestOaths_19 l E Q v1 v3) (X_X4_greatestOaths_19 l E Q v1 v3))) : V l E xX4_greatestOaths (0, 0) 19 [(0, bR 6), (1, bI v1), (2, bI v2), (3, bI v3), (4, bI v4)] [] M (b_pI Q) := by
  unfold F_X4_greatestOaths_s19 at h
  refine v_iload (i := 4) 4 rfl dX4_greatestOaths_19 ?_
  refine v_iload_n (f := 3) 3 rfl dX4_greatestOaths_21 ?_
  refine v_icmp_ge (tgt := 102) dX4_greatestOaths_22 (by decide) (fun c5 => ?_) (fun c5 => ?_)
  · replace h := b_wp_t c5 h
    refine v_sub (ls2 := [(2, bI _)]) [2] rfl ?_
    exact h
  · replace h := b_wp_f c5 h
    obtain ⟨g6, h⟩ := b_wp_g h
    refine v_iload (i := 4) 4 rfl dX4_greatestOaths_25 ?_
    refine v_istore (i := 5) (ls' := [(5, bI _), (0, bR _), (1, bI _), (2, bI _), (3, bI _), (4, bI _)]) (by decide) dX4_greatestOaths_27 rfl ?_
    refine v_iload (i := 4) 5 rfl dX4_greatestOaths_29 ?_
    refine v_iconst ⟨by decide, by decide⟩ dX4_greatestOaths_31 ?_
    refine v_iaddN g6 dX4_greatestOaths_32 ?_
    refine v_istore (i := 6) (ls' := [(6, bI _), (5, bI _), (0, bR _), (1, bI _), (2, bI _), (3, bI _), (4, bI _)]) (by decide) dX4_greatestOaths_33 rfl ?_
    refine v_sub (ls2 := [(0, bR _), (1, bI _), (2, bI _), (3, bI _), (4, bI _), (5, bI _), (6, bI _)]) [2, 3, 4, 5, 6, 1, 0] rfl ?_
    refine l_X4_greatestOaths_35 (b_wp_m (fun t h => ?_) (b_wp_b h))
    show V l E xX4_greatestOaths (0, 0) 68 [(0, bR 6), (1, bI _), (2, bI _), (3, bI _), (4, bI _), (5, bI _)] [] _ (b_pI Q)
    exact t_X4_greatestOaths_b68 h
theorem l_X4_greatestOaths_19 {l : Launch} {E : bE} {Q : (Int × bM) → Prop} {v1 : Int} {v3 : Int} {s : Int × Int × bM} (h : b_wp (b_loop (fun t => F_X4_greatestOaths_s19 v1 t.1 v3 t.2.1 t.2.2) s) (X_X4_greatestOaths_19 l E Q v1 v3)) : A_X4_greatestOaths_19 l E Q v1 v3 s := b_loop_wp (fun t h => t_X4_greatestOaths_s19 h) s h
noncomputable def F_X4_greatestOaths_b102 (v2 : Int) (M : bM) : Option (Int × bM) :=
  some (v2, M)
theorem t_X4_greatestOaths_b102 {l : Launch} {E : bE} {Q : (Int × bM) → Prop} {v2 : Int} {M : bM} (h : b_wp (F_X4_greatestOaths_b102 v2 M) (Q)) : V l E xX4_greatestOaths (0, 0) 102 [(2, bI v2)] [] M (b_pI Q) := by
  unfold F_X4_greatestOaths_b102 at h
  refine v_iload_n (f := 2) 0 rfl dX4_greatestOaths_102 ?_
  refine v_ireturn rfl dX4_greatestOaths_103 ⟨by decide, by decide⟩ ?_
  exact ⟨_, rfl, h⟩
noncomputable def F_X4_greatestOaths (v1 : Int) (M : bM) : Option (Int × bM) :=
  b_bind (F_X4_actThen M) (fun x1 => b_g (12 ≤ x1 ∧ x1 < 22) (b_bind (F_X0_told_a x1 7 M) (fun x3 => b_let ((min v1 x3)) (fun y4 => b_bind (b_loop (fun t => F_X4_greatestOaths_s19 v1 t.1 y4 t.2.1 t.2.2) (0, 0, M)) (fun t => F_X4_greatestOaths_b102 (t.1) (t.2))))))
theorem t_X4_greatestOaths {l : Launch} {E : bE} {Q : (Int × bM) → Prop} {v1 : Int} {M : bM} (h : b_wp (F_X4_greatestOaths v1 M) (Q)) : V l E xX4_greatestOaths (0, 0) 0 [(0, bR 6), (1, bI v1)] [] M (b_pI Q) := by
  unfold F_X4_greatestOaths at h
  refine v_iconst ⟨by decide, by decide⟩ dX4_greatestOaths_0 ?_
  refine v_istore_n (g := 2) (i := 2) (ls' := [(2, bI _), (0, bR _), (1, bI _)]) rfl (by decide) dX4_greatestOaths_1 rfl ?_
  refine v_iload_n (f := 1) 2 rfl dX4_greatestOaths_2 ?_
  refine v_aload_n (f := 0) 1 rfl dX4_greatestOaths_3 ?_
  refine v_cVAp (nA := 0) (As := []) (ix := 158) (cf_X4_actThen (b_wp_b h)) rfl kd_6 rfl rfl wc_X4_actThen wm_4_158 wi_X4_actThen ws_X4_actThen wn_4 ⟨by decide, by decide, by decide⟩ rfl ⟨by decide, by decide⟩ ⟨by decide, by decide⟩ (Nat.le_of_ble_eq_true rfl) dX4_greatestOaths_4 (fun x1 h => ?_)
  obtain ⟨g2, h⟩ := b_wp_g h
  refine v_bipush ⟨by decide, by decide⟩ (by decide) dX4_greatestOaths_7 ?_
  refine v_cVIp (nA := 1) (As := [bI _]) (ix := 164) (cf_X0_told_a (b_wp_b h)) rfl (kd_act0 g2) rfl rfl wc_X0_told wm_4_164 wi_X0_told ws_X0_told wn_0 ⟨by decide, by decide, by decide⟩ rfl ⟨by decide, by decide⟩ ⟨by decide, by decide⟩ (Nat.le_of_ble_eq_true rfl) dX4_greatestOaths_9 (fun x3 h => ?_)
  refine v_mmin wm_4_93 wma_min wmi wmc_min ⟨by decide, by decide⟩ ⟨by decide, by decide⟩ (Nat.le_of_ble_eq_true rfl) dX4_greatestOaths_12 ?_
  replace h := b_wp_l h
  refine v_istore_n (g := 3) (i := 3) (ls' := [(3, bI _), (2, bI _), (0, bR _), (1, bI _)]) rfl (by decide) dX4_greatestOaths_15 rfl ?_
  refine v_iconst ⟨by decide, by decide⟩ dX4_greatestOaths_16 ?_
  refine v_istore (i := 4) (ls' := [(4, bI _), (3, bI _), (2, bI _), (0, bR _), (1, bI _)]) (by decide) dX4_greatestOaths_17 rfl ?_
  refine v_sub (ls2 := [(0, bR _), (1, bI _), (2, bI _), (3, bI _), (4, bI _)]) [3, 4, 2, 1, 0] rfl ?_
  refine l_X4_greatestOaths_19 (b_wp_m (fun t h => ?_) (b_wp_b h))
  show V l E xX4_greatestOaths (0, 0) 102 [(2, bI _)] [] _ (b_pI Q)
  exact t_X4_greatestOaths_b102 h
theorem cf_X4_greatestOaths {l : Launch} {E : bE} {M : bM} {v1 : Int} {Q : (Int × bM) → Prop} (h : b_wp (F_X4_greatestOaths v1 M) Q) : b_C l E xX4_greatestOaths yX4_greatestOaths [bR 6, bI v1] M (b_pI Q) := b_met (by decide) ⟨rfl, rfl⟩ (Nat.le_of_ble_eq_true rfl) (fun _ _ => t_X4_greatestOaths h)
abbrev xX4_sumOf : bX := ("BurntHall$Evidence", prog_6_method_14_code, 8, (Option.some Jvm.ClassFile.FieldType.int), b_rm 4 0 0, 0, "sumOf")
abbrev yX4_sumOf : MethodName := ⟨"BurntHall$Evidence", "sumOf", "(II)I"⟩
theorem dX4_sumOf_0 : decode prog_6_method_14_code 0 = .ok (.iconst 0, 1) := by decide +kernel
theorem dX4_sumOf_1 : decode prog_6_method_14_code 1 = .ok (.istore_n 3, 1) := by decide +kernel
theorem dX4_sumOf_2 : decode prog_6_method_14_code 2 = .ok (.iconst 0, 1) := by decide +kernel
theorem dX4_sumOf_3 : decode prog_6_method_14_code 3 = .ok (.istore 4, 2) := by decide +kernel
theorem dX4_sumOf_5 : decode prog_6_method_14_code 5 = .ok (.iconst 0, 1) := by decide +kernel
theorem dX4_sumOf_6 : decode prog_6_method_14_code 6 = .ok (.istore 5, 2) := by decide +kernel
theorem dX4_sumOf_8 : decode prog_6_method_14_code 8 = .ok (.iload 5, 2) := by decide +kernel
theorem dX4_sumOf_10 : decode prog_6_method_14_code 10 = .ok (.aload_n 0, 1) := by decide +kernel
theorem dX4_sumOf_11 : decode prog_6_method_14_code 11 = .ok (.getfield 98, 3) := by decide +kernel
theorem dX4_sumOf_14 : decode prog_6_method_14_code 14 = .ok (.if_icmp .ge 78, 3) := by decide +kernel
theorem dX4_sumOf_17 : decode prog_6_method_14_code 17 = .ok (.aload_n 0, 1) := by decide +kernel
theorem dX4_sumOf_18 : decode prog_6_method_14_code 18 = .ok (.getfield 21, 3) := by decide +kernel
theorem dX4_sumOf_21 : decode prog_6_method_14_code 21 = .ok (.iload 5, 2) := by decide +kernel
theorem dX4_sumOf_23 : decode prog_6_method_14_code 23 = .ok (.iaload, 1) := by decide +kernel
theorem dX4_sumOf_24 : decode prog_6_method_14_code 24 = .ok (.istore 6, 2) := by decide +kernel
theorem dX4_sumOf_26 : decode prog_6_method_14_code 26 = .ok (.aload_n 0, 1) := by decide +kernel
theorem dX4_sumOf_27 : decode prog_6_method_14_code 27 = .ok (.iload 6, 2) := by decide +kernel
theorem dX4_sumOf_29 : decode prog_6_method_14_code 29 = .ok (.iload_n 2, 1) := by decide +kernel
theorem dX4_sumOf_30 : decode prog_6_method_14_code 30 = .ok (.invokevirtual 149, 3) := by decide +kernel
theorem dX4_sumOf_33 : decode prog_6_method_14_code 33 = .ok (.iload_n 1, 1) := by decide +kernel
theorem dX4_sumOf_34 : decode prog_6_method_14_code 34 = .ok (.if_icmp .ne 52, 3) := by decide +kernel
theorem dX4_sumOf_37 : decode prog_6_method_14_code 37 = .ok (.aload_n 0, 1) := by decide +kernel
theorem dX4_sumOf_38 : decode prog_6_method_14_code 38 = .ok (.getfield 35, 3) := by decide +kernel
theorem dX4_sumOf_41 : decode prog_6_method_14_code 41 = .ok (.iload 6, 2) := by decide +kernel
theorem dX4_sumOf_43 : decode prog_6_method_14_code 43 = .ok (.aload_n 0, 1) := by decide +kernel
theorem dX4_sumOf_44 : decode prog_6_method_14_code 44 = .ok (.getfield 51, 3) := by decide +kernel
theorem dX4_sumOf_47 : decode prog_6_method_14_code 47 = .ok (.invokevirtual 170, 3) := by decide +kernel
theorem dX4_sumOf_50 : decode prog_6_method_14_code 50 = .ok (.istore 7, 2) := by decide +kernel
theorem dX4_sumOf_52 : decode prog_6_method_14_code 52 = .ok (.aload_n 0, 1) := by decide +kernel
theorem dX4_sumOf_53 : decode prog_6_method_14_code 53 = .ok (.getfield 35, 3) := by decide +kernel
theorem dX4_sumOf_56 : decode prog_6_method_14_code 56 = .ok (.getfield 173, 3) := by decide +kernel
theorem dX4_sumOf_59 : decode prog_6_method_14_code 59 = .ok (.iload 6, 2) := by decide +kernel
theorem dX4_sumOf_61 : decode prog_6_method_14_code 61 = .ok (.iaload, 1) := by decide +kernel
theorem dX4_sumOf_62 : decode prog_6_method_14_code 62 = .ok (.iconst 3, 1) := by decide +kernel
theorem dX4_sumOf_63 : decode prog_6_method_14_code 63 = .ok (.if_icmp .ne 18, 3) := by decide +kernel
theorem dX4_sumOf_66 : decode prog_6_method_14_code 66 = .ok (.aload_n 0, 1) := by decide +kernel
theorem dX4_sumOf_67 : decode prog_6_method_14_code 67 = .ok (.getfield 24, 3) := by decide +kernel
theorem dX4_sumOf_70 : decode prog_6_method_14_code 70 = .ok (.iload 4, 2) := by decide +kernel
theorem dX4_sumOf_72 : decode prog_6_method_14_code 72 = .ok (.iload 7, 2) := by decide +kernel
theorem dX4_sumOf_74 : decode prog_6_method_14_code 74 = .ok (.iastore, 1) := by decide +kernel
theorem dX4_sumOf_75 : decode prog_6_method_14_code 75 = .ok (.iinc 4 1, 3) := by decide +kernel
theorem dX4_sumOf_78 : decode prog_6_method_14_code 78 = .ok (.goto 8, 3) := by decide +kernel
theorem dX4_sumOf_81 : decode prog_6_method_14_code 81 = .ok (.iload_n 3, 1) := by decide +kernel
theorem dX4_sumOf_82 : decode prog_6_method_14_code 82 = .ok (.iload 7, 2) := by decide +kernel
theorem dX4_sumOf_84 : decode prog_6_method_14_code 84 = .ok (.iadd, 1) := by decide +kernel
theorem dX4_sumOf_85 : decode prog_6_method_14_code 85 = .ok (.istore_n 3, 1) := by decide +kernel
theorem dX4_sumOf_86 : decode prog_6_method_14_code 86 = .ok (.iinc 5 1, 3) := by decide +kernel
theorem dX4_sumOf_89 : decode prog_6_method_14_code 89 = .ok (.goto (-81), 3) := by decide +kernel
theorem dX4_sumOf_92 : decode prog_6_method_14_code 92 = .ok (.iload_n 3, 1) := by decide +kernel
theorem dX4_sumOf_93 : decode prog_6_method_14_code 93 = .ok (.aload_n 0, 1) := by decide +kernel
theorem dX4_sumOf_94 : decode prog_6_method_14_code 94 = .ok (.iload 4, 2) := by decide +kernel
theorem dX4_sumOf_96 : decode prog_6_method_14_code 96 = .ok (.invokevirtual 176, 3) := by decide +kernel
theorem dX4_sumOf_99 : decode prog_6_method_14_code 99 = .ok (.iadd, 1) := by decide +kernel
theorem dX4_sumOf_100 : decode prog_6_method_14_code 100 = .ok (.ireturn, 1) := by decide +kernel
abbrev A_X4_sumOf_8 (l : Launch) (E : bE) (Q : (Int × bM) → Prop) (v1 : Int) (v2 : Int) : (Int × Int × Int × bM) → Prop := (fun t : Int × Int × Int × bM => V l E xX4_sumOf (0, 0) 8 [(0, bR 6), (1, bI v1), (2, bI v2), (3, bI (t.1)), (4, bI (t.2.1)), (5, bI (t.2.2.1))] [] t.2.2.2 (b_pI Q))
abbrev X_X4_sumOf_8 (l : Launch) (E : bE) (Q : (Int × bM) → Prop) (v1 : Int) (v2 : Int) : (Int × Int × bM) → Prop := (fun t : Int × Int × bM => V l E xX4_sumOf (0, 0) 92 [(0, bR 6), (3, bI (t.1)), (4, bI (t.2.1))] [] t.2.2 (b_pI Q))
noncomputable def F_X4_sumOf_s8 (v1 : Int) (v2 : Int) (v3 : Int) (v4 : Int) (v5 : Int) (M : bM) : Option ((Int × Int × Int × bM) ⊕ (Int × Int × bM)) :=
  if (M 6 11) ≤ v5 then (some (.inr (v3, v4, M))) else (b_g (0 ≤ v5 ∧ v5 < 120) (b_let ((M 128 v5)) (fun y3 => b_bind (F_X4_thing y3 v2 M) (fun x4 => if x4 = v1 then (b_bind (F_X7_weightBy y3 (M 6 7) M) (fun x7 => b_g (0 ≤ y3 ∧ y3 < 120) (if (M 110 y3) = 3 then (b_g (0 ≤ v4 ∧ v4 < 120) (b_let (b_up M 129 v4 x7) (fun M13 => b_g ((b_i32 (v4 + 1)) ∧ (b_i32 (v5 + 1))) (some (.inl (v3, (v4 + 1), (v5 + 1), M13)))))) else (b_g ((b_i32 (v3 + x7)) ∧ (b_i32 (v5 + 1))) (some (.inl ((v3 + x7), v4, (v5 + 1), M))))))) else (b_g (b_i32 (v5 + 1)) (some (.inl (v3, v4, (v5 + 1), M))))))))
theorem t_X4_sumOf_s8 {l : Launch} {E : bE} {Q : (Int × bM) → Prop} {v1 : Int} {v2 : Int} {v3 : Int} {v4 : Int} {v5 : Int} {M : bM} (h : b_wp (F_X4_sumOf_s8 v1 v2 v3 v4 v5 M) (Sum.elim (A_X4_sumOf_8 l E Q v1 v2) (X_X4_sumOf_8 l E Q v1 v2))) : V l E xX4_sumOf (0, 0) 8 [(0, bR 6), (1, bI v1), (2, bI v2), (3, bI v3), (4, bI v4), (5, bI v5)] [] M (b_pI Q) := by
  unfold F_X4_sumOf_s8 at h
  refine v_iload (i := 5) 5 rfl dX4_sumOf_8 ?_
  refine v_aload_n (f := 0) 0 rfl dX4_sumOf_10 ?_
  refine v_getI (kf := 11) (kz := 11) rfl kd_6 rfl ⟨by decide, by decide⟩ rfl wf_4_98 dX4_sumOf_11 ?_
  refine v_icmp_ge (tgt := 92) dX4_sumOf_14 (by decide) (fun c1 => ?_) (fun c1 => ?_)
  · replace h := b_wp_t c1 h
    refine v_sub (ls2 := [(0, bR _), (3, bI _), (4, bI _)]) [0, 3, 4] rfl ?_
    exact h
  · replace h := b_wp_f c1 h
    obtain ⟨g2, h⟩ := b_wp_g h
    refine v_aload_n (f := 0) 0 rfl dX4_sumOf_17 ?_
    refine v_getR (kf := 10) (kz := 10) rfl kd_6 rfl ⟨by decide, by decide⟩ rfl wf_4_21 dX4_sumOf_18 ?_
    refine v_iload (i := 5) 5 rfl dX4_sumOf_21 ?_
    refine v_iaload kd_128 g2 (by decide) dX4_sumOf_23 ?_
    replace h := b_wp_l h
    refine v_istore (i := 6) (ls' := [(6, bI _), (0, bR _), (1, bI _), (2, bI _), (3, bI _), (4, bI _), (5, bI _)]) (by decide) dX4_sumOf_24 rfl ?_
    refine v_aload_n (f := 0) 1 rfl dX4_sumOf_26 ?_
    refine v_iload (i := 6) 0 rfl dX4_sumOf_27 ?_
    refine v_iload_n (f := 2) 3 rfl dX4_sumOf_29 ?_
    refine v_cVIp (nA := 2) (As := [bI _, bI _]) (ix := 149) (cf_X4_thing (b_wp_b h)) rfl kd_6 rfl rfl wc_X4_thing wm_4_149 wi_X4_thing ws_X4_thing wn_4 ⟨by decide, by decide, by decide⟩ rfl ⟨by decide, by decide⟩ ⟨by decide, by decide⟩ (Nat.le_of_ble_eq_true rfl) dX4_sumOf_30 (fun x4 h => ?_)
    refine v_iload_n (f := 1) 2 rfl dX4_sumOf_33 ?_
    refine v_icmp_ne (tgt := 86) dX4_sumOf_34 (by decide) (fun c5 => ?_) (fun c5 => ?_)
    · replace h := b_wp_f c5 h
      obtain ⟨g6, h⟩ := b_wp_g h
      refine v_iincN (ls' := [(5, bI _), (6, bI _), (0, bR _), (1, bI _), (2, bI _), (3, bI _), (4, bI _)]) 6 rfl (by decide) g6 dX4_sumOf_86 rfl ?_
      refine v_goto (tgt := 8) dX4_sumOf_89 (by decide) ?_
      refine v_sub (ls2 := [(0, bR _), (1, bI _), (2, bI _), (3, bI _), (4, bI _), (5, bI _)]) [2, 3, 4, 5, 6, 0] rfl ?_
      exact h
    · replace h := b_wp_t c5 h
      refine v_aload_n (f := 0) 1 rfl dX4_sumOf_37 ?_
      refine v_getR (kf := 3) (kz := 3) rfl kd_6 rfl ⟨by decide, by decide⟩ rfl wf_4_35 dX4_sumOf_38 ?_
      refine v_iload (i := 6) 0 rfl dX4_sumOf_41 ?_
      refine v_aload_n (f := 0) 1 rfl dX4_sumOf_43 ?_
      refine v_getI (kf := 7) (kz := 7) rfl kd_6 rfl ⟨by decide, by decide⟩ rfl wf_4_51 dX4_sumOf_44 ?_
      refine v_cVIp (nA := 2) (As := [bI _, bI _]) (ix := 170) (cf_X7_weightBy (b_wp_b h)) rfl kd_5 rfl rfl wc_X7_weightBy wm_4_170 wi_X7_weightBy ws_X7_weightBy wn_7 ⟨by decide, by decide, by decide⟩ rfl ⟨by decide, by decide⟩ ⟨by decide, by decide⟩ (Nat.le_of_ble_eq_true rfl) dX4_sumOf_47 (fun x7 h => ?_)
      obtain ⟨g8, h⟩ := b_wp_g h
      refine v_istore (i := 7) (ls' := [(7, bI _), (6, bI _), (0, bR _), (1, bI _), (2, bI _), (3, bI _), (4, bI _), (5, bI _)]) (by decide) dX4_sumOf_50 rfl ?_
      refine v_aload_n (f := 0) 2 rfl dX4_sumOf_52 ?_
      refine v_getR (kf := 3) (kz := 3) rfl kd_6 rfl ⟨by decide, by decide⟩ rfl wf_4_35 dX4_sumOf_53 ?_
      refine v_getR (kf := 2) (kz := 2) rfl kd_5 rfl ⟨by decide, by decide⟩ rfl wf_4_173 dX4_sumOf_56 ?_
      refine v_iload (i := 6) 1 rfl dX4_sumOf_59 ?_
      refine v_iaload kd_110 g8 (by decide) dX4_sumOf_61 ?_
      refine v_iconst ⟨by decide, by decide⟩ dX4_sumOf_62 ?_
      refine v_icmp_ne (tgt := 81) dX4_sumOf_63 (by decide) (fun c9 => ?_) (fun c9 => ?_)
      · replace h := b_wp_f c9 h
        obtain ⟨⟨g10, g11⟩, h⟩ := b_wp_g h
        refine v_iload_n (f := 3) 5 rfl dX4_sumOf_81 ?_
        refine v_iload (i := 7) 0 rfl dX4_sumOf_82 ?_
        refine v_iaddN g10 dX4_sumOf_84 ?_
        refine v_istore_n (g := 3) (i := 3) (ls' := [(3, bI _), (7, bI _), (6, bI _), (0, bR _), (1, bI _), (2, bI _), (4, bI _), (5, bI _)]) rfl (by decide) dX4_sumOf_85 rfl ?_
        refine v_iincN (ls' := [(5, bI _), (3, bI _), (7, bI _), (6, bI _), (0, bR _), (1, bI _), (2, bI _), (4, bI _)]) 7 rfl (by decide) g11 dX4_sumOf_86 rfl ?_
        refine v_goto (tgt := 8) dX4_sumOf_89 (by decide) ?_
        refine v_sub (ls2 := [(0, bR _), (1, bI _), (2, bI _), (3, bI _), (4, bI _), (5, bI _)]) [4, 5, 6, 1, 7, 0] rfl ?_
        exact h
      · replace h := b_wp_t c9 h
        obtain ⟨g12, h⟩ := b_wp_g h
        refine v_aload_n (f := 0) 2 rfl dX4_sumOf_66 ?_
        refine v_getR (kf := 12) (kz := 12) rfl kd_6 rfl ⟨by decide, by decide⟩ rfl wf_4_24 dX4_sumOf_67 ?_
        refine v_iload (i := 4) 6 rfl dX4_sumOf_70 ?_
        refine v_iload (i := 7) 0 rfl dX4_sumOf_72 ?_
        refine v_iastore kd_129 g12 (by decide) dX4_sumOf_74 ?_
        replace h := b_wp_l h
        obtain ⟨⟨g14, g15⟩, h⟩ := b_wp_g h
        refine v_iincN (ls' := [(4, bI _), (7, bI _), (6, bI _), (0, bR _), (1, bI _), (2, bI _), (3, bI _), (5, bI _)]) 6 rfl (by decide) g14 dX4_sumOf_75 rfl ?_
        refine v_goto (tgt := 86) dX4_sumOf_78 (by decide) ?_
        refine v_iincN (ls' := [(5, bI _), (4, bI _), (7, bI _), (6, bI _), (0, bR _), (1, bI _), (2, bI _), (3, bI _)]) 7 rfl (by decide) g15 dX4_sumOf_86 rfl ?_
        refine v_goto (tgt := 8) dX4_sumOf_89 (by decide) ?_
        refine v_sub (ls2 := [(0, bR _), (1, bI _), (2, bI _), (3, bI _), (4, bI _), (5, bI _)]) [4, 5, 6, 7, 1, 0] rfl ?_
        exact h
theorem l_X4_sumOf_8 {l : Launch} {E : bE} {Q : (Int × bM) → Prop} {v1 : Int} {v2 : Int} {s : Int × Int × Int × bM} (h : b_wp (b_loop (fun t => F_X4_sumOf_s8 v1 v2 t.1 t.2.1 t.2.2.1 t.2.2.2) s) (X_X4_sumOf_8 l E Q v1 v2)) : A_X4_sumOf_8 l E Q v1 v2 s := b_loop_wp (fun t h => t_X4_sumOf_s8 h) s h
noncomputable def F_X4_sumOf_b92 (v3 : Int) (v4 : Int) (M : bM) : Option (Int × bM) :=
  b_bind (F_X4_greatestOaths v4 M) (fun t => b_two t (fun x16 M17 => b_g (b_i32 (v3 + x16)) (some ((v3 + x16), M17))))
theorem t_X4_sumOf_b92 {l : Launch} {E : bE} {Q : (Int × bM) → Prop} {v3 : Int} {v4 : Int} {M : bM} (h : b_wp (F_X4_sumOf_b92 v3 v4 M) (Q)) : V l E xX4_sumOf (0, 0) 92 [(0, bR 6), (3, bI v3), (4, bI v4)] [] M (b_pI Q) := by
  unfold F_X4_sumOf_b92 at h
  refine v_iload_n (f := 3) 1 rfl dX4_sumOf_92 ?_
  refine v_aload_n (f := 0) 0 rfl dX4_sumOf_93 ?_
  refine v_iload (i := 4) 2 rfl dX4_sumOf_94 ?_
  refine v_cVI (nA := 1) (As := [bI _]) (ix := 176) (cf_X4_greatestOaths (b_wp_b h)) rfl kd_6 rfl rfl wc_X4_greatestOaths wm_4_176 wi_X4_greatestOaths ws_X4_greatestOaths wn_4 ⟨by decide, by decide, by decide⟩ rfl ⟨by decide, by decide⟩ ⟨by decide, by decide⟩ (Nat.le_of_ble_eq_true rfl) dX4_sumOf_96 (fun x16 M17 h => ?_)
  replace h := b_wp_two h
  obtain ⟨g18, h⟩ := b_wp_g h
  refine v_iaddN g18 dX4_sumOf_99 ?_
  refine v_ireturn rfl dX4_sumOf_100 ⟨by decide, by decide⟩ ?_
  exact ⟨_, rfl, h⟩
noncomputable def F_X4_sumOf (v1 : Int) (v2 : Int) (M : bM) : Option (Int × bM) :=
  b_bind (b_loop (fun t => F_X4_sumOf_s8 v1 v2 t.1 t.2.1 t.2.2.1 t.2.2.2) (0, 0, 0, M)) (fun t => F_X4_sumOf_b92 (t.1) (t.2.1) (t.2.2))
theorem t_X4_sumOf {l : Launch} {E : bE} {Q : (Int × bM) → Prop} {v1 : Int} {v2 : Int} {M : bM} (h : b_wp (F_X4_sumOf v1 v2 M) (Q)) : V l E xX4_sumOf (0, 0) 0 [(0, bR 6), (1, bI v1), (2, bI v2)] [] M (b_pI Q) := by
  unfold F_X4_sumOf at h
  refine v_iconst ⟨by decide, by decide⟩ dX4_sumOf_0 ?_
  refine v_istore_n (g := 3) (i := 3) (ls' := [(3, bI _), (0, bR _), (1, bI _), (2, bI _)]) rfl (by decide) dX4_sumOf_1 rfl ?_
  refine v_iconst ⟨by decide, by decide⟩ dX4_sumOf_2 ?_
  refine v_istore (i := 4) (ls' := [(4, bI _), (3, bI _), (0, bR _), (1, bI _), (2, bI _)]) (by decide) dX4_sumOf_3 rfl ?_
  refine v_iconst ⟨by decide, by decide⟩ dX4_sumOf_5 ?_
  refine v_istore (i := 5) (ls' := [(5, bI _), (4, bI _), (3, bI _), (0, bR _), (1, bI _), (2, bI _)]) (by decide) dX4_sumOf_6 rfl ?_
  refine v_sub (ls2 := [(0, bR _), (1, bI _), (2, bI _), (3, bI _), (4, bI _), (5, bI _)]) [3, 4, 5, 2, 1, 0] rfl ?_
  refine l_X4_sumOf_8 (b_wp_m (fun t h => ?_) (b_wp_b h))
  show V l E xX4_sumOf (0, 0) 92 [(0, bR 6), (3, bI _), (4, bI _)] [] _ (b_pI Q)
  exact t_X4_sumOf_b92 h
theorem cf_X4_sumOf {l : Launch} {E : bE} {M : bM} {v1 : Int} {v2 : Int} {Q : (Int × bM) → Prop} (h : b_wp (F_X4_sumOf v1 v2 M) Q) : b_C l E xX4_sumOf yX4_sumOf [bR 6, bI v1, bI v2] M (b_pI Q) := b_met (by decide) ⟨rfl, rfl⟩ (Nat.le_of_ble_eq_true rfl) (fun _ _ => t_X4_sumOf h)
abbrev xX4_leastNumber : bX := ("BurntHall$Evidence", prog_6_method_16_code, 5, (Option.some Jvm.ClassFile.FieldType.int), b_rm 4 0 0, 0, "leastNumber")
abbrev yX4_leastNumber : MethodName := ⟨"BurntHall$Evidence", "leastNumber", "(II)I"⟩
theorem dX4_leastNumber_0 : decode prog_6_method_16_code 0 = .ok (.sipush 140, 3) := by decide +kernel
theorem dX4_leastNumber_3 : decode prog_6_method_16_code 3 = .ok (.istore_n 3, 1) := by decide +kernel
theorem dX4_leastNumber_4 : decode prog_6_method_16_code 4 = .ok (.iconst 0, 1) := by decide +kernel
theorem dX4_leastNumber_5 : decode prog_6_method_16_code 5 = .ok (.istore 4, 2) := by decide +kernel
theorem dX4_leastNumber_7 : decode prog_6_method_16_code 7 = .ok (.iload 4, 2) := by decide +kernel
theorem dX4_leastNumber_9 : decode prog_6_method_16_code 9 = .ok (.aload_n 0, 1) := by decide +kernel
theorem dX4_leastNumber_10 : decode prog_6_method_16_code 10 = .ok (.getfield 98, 3) := by decide +kernel
theorem dX4_leastNumber_13 : decode prog_6_method_16_code 13 = .ok (.if_icmp .ge 45, 3) := by decide +kernel
theorem dX4_leastNumber_16 : decode prog_6_method_16_code 16 = .ok (.aload_n 0, 1) := by decide +kernel
theorem dX4_leastNumber_17 : decode prog_6_method_16_code 17 = .ok (.aload_n 0, 1) := by decide +kernel
theorem dX4_leastNumber_18 : decode prog_6_method_16_code 18 = .ok (.getfield 21, 3) := by decide +kernel
theorem dX4_leastNumber_21 : decode prog_6_method_16_code 21 = .ok (.iload 4, 2) := by decide +kernel
theorem dX4_leastNumber_23 : decode prog_6_method_16_code 23 = .ok (.iaload, 1) := by decide +kernel
theorem dX4_leastNumber_24 : decode prog_6_method_16_code 24 = .ok (.iload_n 2, 1) := by decide +kernel
theorem dX4_leastNumber_25 : decode prog_6_method_16_code 25 = .ok (.invokevirtual 149, 3) := by decide +kernel
theorem dX4_leastNumber_28 : decode prog_6_method_16_code 28 = .ok (.iload_n 1, 1) := by decide +kernel
theorem dX4_leastNumber_29 : decode prog_6_method_16_code 29 = .ok (.if_icmp .ne 23, 3) := by decide +kernel
theorem dX4_leastNumber_32 : decode prog_6_method_16_code 32 = .ok (.iload_n 3, 1) := by decide +kernel
theorem dX4_leastNumber_33 : decode prog_6_method_16_code 33 = .ok (.aload_n 0, 1) := by decide +kernel
theorem dX4_leastNumber_34 : decode prog_6_method_16_code 34 = .ok (.getfield 35, 3) := by decide +kernel
theorem dX4_leastNumber_37 : decode prog_6_method_16_code 37 = .ok (.aload_n 0, 1) := by decide +kernel
theorem dX4_leastNumber_38 : decode prog_6_method_16_code 38 = .ok (.getfield 21, 3) := by decide +kernel
theorem dX4_leastNumber_41 : decode prog_6_method_16_code 41 = .ok (.iload 4, 2) := by decide +kernel
theorem dX4_leastNumber_43 : decode prog_6_method_16_code 43 = .ok (.iaload, 1) := by decide +kernel
theorem dX4_leastNumber_44 : decode prog_6_method_16_code 44 = .ok (.iload_n 2, 1) := by decide +kernel
theorem dX4_leastNumber_45 : decode prog_6_method_16_code 45 = .ok (.invokevirtual 114, 3) := by decide +kernel
theorem dX4_leastNumber_48 : decode prog_6_method_16_code 48 = .ok (.invokestatic 93, 3) := by decide +kernel
theorem dX4_leastNumber_51 : decode prog_6_method_16_code 51 = .ok (.istore_n 3, 1) := by decide +kernel
theorem dX4_leastNumber_52 : decode prog_6_method_16_code 52 = .ok (.iinc 4 1, 3) := by decide +kernel
theorem dX4_leastNumber_55 : decode prog_6_method_16_code 55 = .ok (.goto (-48), 3) := by decide +kernel
theorem dX4_leastNumber_58 : decode prog_6_method_16_code 58 = .ok (.iload_n 3, 1) := by decide +kernel
theorem dX4_leastNumber_59 : decode prog_6_method_16_code 59 = .ok (.ireturn, 1) := by decide +kernel
abbrev A_X4_leastNumber_7 (l : Launch) (E : bE) (Q : Int → Prop) (v1 : Int) (v2 : Int) (M : bM) : (Int × Int) → Prop := (fun t : Int × Int => V l E xX4_leastNumber (0, 0) 7 [(0, bR 6), (1, bI v1), (2, bI v2), (3, bI (t.1)), (4, bI (t.2))] [] M (b_pIp M Q))
abbrev X_X4_leastNumber_7 (l : Launch) (E : bE) (Q : Int → Prop) (v1 : Int) (v2 : Int) (M : bM) : (Int) → Prop := (fun t : Int => V l E xX4_leastNumber (0, 0) 58 [(3, bI t)] [] M (b_pIp M Q))
noncomputable def F_X4_leastNumber_s7 (v1 : Int) (v2 : Int) (v3 : Int) (v4 : Int) (M : bM) : Option ((Int × Int) ⊕ (Int)) :=
  if (M 6 11) ≤ v4 then (some (.inr (v3))) else (b_g (0 ≤ v4 ∧ v4 < 120) (b_bind (F_X4_thing (M 128 v4) v2 M) (fun x3 => if x3 = v1 then (b_g (0 ≤ v4 ∧ v4 < 120) (b_bind (F_X7_saying (M 128 v4) v2 M) (fun x7 => b_let ((min v3 x7)) (fun y8 => b_g (b_i32 (v4 + 1)) (some (.inl (y8, (v4 + 1)))))))) else (b_g (b_i32 (v4 + 1)) (some (.inl (v3, (v4 + 1))))))))
theorem t_X4_leastNumber_s7 {l : Launch} {E : bE} {Q : Int → Prop} {v1 : Int} {v2 : Int} {v3 : Int} {v4 : Int} {M : bM} (h : b_wp (F_X4_leastNumber_s7 v1 v2 v3 v4 M) (Sum.elim (A_X4_leastNumber_7 l E Q v1 v2 M) (X_X4_leastNumber_7 l E Q v1 v2 M))) : V l E xX4_leastNumber (0, 0) 7 [(0, bR 6), (1, bI v1), (2, bI v2), (3, bI v3), (4, bI v4)] [] M (b_pIp M Q) := by
  unfold F_X4_leastNumber_s7 at h
  refine v_iload (i := 4) 4 rfl dX4_leastNumber_7 ?_
  refine v_aload_n (f := 0) 0 rfl dX4_leastNumber_9 ?_
  refine v_getI (kf := 11) (kz := 11) rfl kd_6 rfl ⟨by decide, by decide⟩ rfl wf_4_98 dX4_leastNumber_10 ?_
  refine v_icmp_ge (tgt := 58) dX4_leastNumber_13 (by decide) (fun c1 => ?_) (fun c1 => ?_)
  · replace h := b_wp_t c1 h
    refine v_sub (ls2 := [(3, bI _)]) [3] rfl ?_
    exact h
  · replace h := b_wp_f c1 h
    obtain ⟨g2, h⟩ := b_wp_g h
    refine v_aload_n (f := 0) 0 rfl dX4_leastNumber_16 ?_
    refine v_aload_n (f := 0) 0 rfl dX4_leastNumber_17 ?_
    refine v_getR (kf := 10) (kz := 10) rfl kd_6 rfl ⟨by decide, by decide⟩ rfl wf_4_21 dX4_leastNumber_18 ?_
    refine v_iload (i := 4) 4 rfl dX4_leastNumber_21 ?_
    refine v_iaload kd_128 g2 (by decide) dX4_leastNumber_23 ?_
    refine v_iload_n (f := 2) 2 rfl dX4_leastNumber_24 ?_
    refine v_cVIp (nA := 2) (As := [bI _, bI _]) (ix := 149) (cf_X4_thing (b_wp_b h)) rfl kd_6 rfl rfl wc_X4_thing wm_4_149 wi_X4_thing ws_X4_thing wn_4 ⟨by decide, by decide, by decide⟩ rfl ⟨by decide, by decide⟩ ⟨by decide, by decide⟩ (Nat.le_of_ble_eq_true rfl) dX4_leastNumber_25 (fun x3 h => ?_)
    refine v_iload_n (f := 1) 1 rfl dX4_leastNumber_28 ?_
    refine v_icmp_ne (tgt := 52) dX4_leastNumber_29 (by decide) (fun c4 => ?_) (fun c4 => ?_)
    · replace h := b_wp_f c4 h
      obtain ⟨g5, h⟩ := b_wp_g h
      refine v_iincN (ls' := [(4, bI _), (0, bR _), (1, bI _), (2, bI _), (3, bI _)]) 4 rfl (by decide) g5 dX4_leastNumber_52 rfl ?_
      refine v_goto (tgt := 7) dX4_leastNumber_55 (by decide) ?_
      refine v_sub (ls2 := [(0, bR _), (1, bI _), (2, bI _), (3, bI _), (4, bI _)]) [1, 2, 3, 4, 0] rfl ?_
      exact h
    · replace h := b_wp_t c4 h
      obtain ⟨g6, h⟩ := b_wp_g h
      refine v_iload_n (f := 3) 3 rfl dX4_leastNumber_32 ?_
      refine v_aload_n (f := 0) 0 rfl dX4_leastNumber_33 ?_
      refine v_getR (kf := 3) (kz := 3) rfl kd_6 rfl ⟨by decide, by decide⟩ rfl wf_4_35 dX4_leastNumber_34 ?_
      refine v_aload_n (f := 0) 0 rfl dX4_leastNumber_37 ?_
      refine v_getR (kf := 10) (kz := 10) rfl kd_6 rfl ⟨by decide, by decide⟩ rfl wf_4_21 dX4_leastNumber_38 ?_
      refine v_iload (i := 4) 4 rfl dX4_leastNumber_41 ?_
      refine v_iaload kd_128 g6 (by decide) dX4_leastNumber_43 ?_
      refine v_iload_n (f := 2) 2 rfl dX4_leastNumber_44 ?_
      refine v_cVIp (nA := 2) (As := [bI _, bI _]) (ix := 114) (cf_X7_saying (b_wp_b h)) rfl kd_5 rfl rfl wc_X7_saying wm_4_114 wi_X7_saying ws_X7_saying wn_7 ⟨by decide, by decide, by decide⟩ rfl ⟨by decide, by decide⟩ ⟨by decide, by decide⟩ (Nat.le_of_ble_eq_true rfl) dX4_leastNumber_45 (fun x7 h => ?_)
      refine v_mmin wm_4_93 wma_min wmi wmc_min ⟨by decide, by decide⟩ ⟨by decide, by decide⟩ (Nat.le_of_ble_eq_true rfl) dX4_leastNumber_48 ?_
      replace h := b_wp_l h
      obtain ⟨g9, h⟩ := b_wp_g h
      refine v_istore_n (g := 3) (i := 3) (ls' := [(3, bI _), (0, bR _), (1, bI _), (2, bI _), (4, bI _)]) rfl (by decide) dX4_leastNumber_51 rfl ?_
      refine v_iincN (ls' := [(4, bI _), (3, bI _), (0, bR _), (1, bI _), (2, bI _)]) 4 rfl (by decide) g9 dX4_leastNumber_52 rfl ?_
      refine v_goto (tgt := 7) dX4_leastNumber_55 (by decide) ?_
      refine v_sub (ls2 := [(0, bR _), (1, bI _), (2, bI _), (3, bI _), (4, bI _)]) [2, 3, 4, 1, 0] rfl ?_
      exact h
theorem l_X4_leastNumber_7 {l : Launch} {E : bE} {Q : Int → Prop} {v1 : Int} {v2 : Int} {M : bM} {s : Int × Int} (h : b_wp (b_loop (fun t => F_X4_leastNumber_s7 v1 v2 t.1 t.2 M) s) (X_X4_leastNumber_7 l E Q v1 v2 M)) : A_X4_leastNumber_7 l E Q v1 v2 M s := b_loop_wp (fun t h => t_X4_leastNumber_s7 h) s h
noncomputable def F_X4_leastNumber_b58 (v3 : Int) (M : bM) : Option (Int) :=
  some v3
theorem t_X4_leastNumber_b58 {l : Launch} {E : bE} {Q : Int → Prop} {v3 : Int} {M : bM} (h : b_wp (F_X4_leastNumber_b58 v3 M) (Q)) : V l E xX4_leastNumber (0, 0) 58 [(3, bI v3)] [] M (b_pIp M Q) := by
  unfold F_X4_leastNumber_b58 at h
  refine v_iload_n (f := 3) 0 rfl dX4_leastNumber_58 ?_
  refine v_ireturn rfl dX4_leastNumber_59 ⟨by decide, by decide⟩ ?_
  exact ⟨_, rfl, rfl, h⟩
noncomputable def F_X4_leastNumber (v1 : Int) (v2 : Int) (M : bM) : Option (Int) :=
  b_bind (b_loop (fun t => F_X4_leastNumber_s7 v1 v2 t.1 t.2 M) (140, 0)) (fun t => F_X4_leastNumber_b58 t M)
theorem t_X4_leastNumber {l : Launch} {E : bE} {Q : Int → Prop} {v1 : Int} {v2 : Int} {M : bM} (h : b_wp (F_X4_leastNumber v1 v2 M) (Q)) : V l E xX4_leastNumber (0, 0) 0 [(0, bR 6), (1, bI v1), (2, bI v2)] [] M (b_pIp M Q) := by
  unfold F_X4_leastNumber at h
  refine v_sipush ⟨by decide, by decide⟩ (by decide) dX4_leastNumber_0 ?_
  refine v_istore_n (g := 3) (i := 3) (ls' := [(3, bI _), (0, bR _), (1, bI _), (2, bI _)]) rfl (by decide) dX4_leastNumber_3 rfl ?_
  refine v_iconst ⟨by decide, by decide⟩ dX4_leastNumber_4 ?_
  refine v_istore (i := 4) (ls' := [(4, bI _), (3, bI _), (0, bR _), (1, bI _), (2, bI _)]) (by decide) dX4_leastNumber_5 rfl ?_
  refine v_sub (ls2 := [(0, bR _), (1, bI _), (2, bI _), (3, bI _), (4, bI _)]) [2, 3, 4, 1, 0] rfl ?_
  refine l_X4_leastNumber_7 (b_wp_m (fun t h => ?_) (b_wp_b h))
  show V l E xX4_leastNumber (0, 0) 58 [(3, bI _)] [] _ (b_pIp M Q)
  exact t_X4_leastNumber_b58 h
theorem cf_X4_leastNumber {l : Launch} {E : bE} {M : bM} {v1 : Int} {v2 : Int} {Q : Int → Prop} (h : b_wp (F_X4_leastNumber v1 v2 M) Q) : b_C l E xX4_leastNumber yX4_leastNumber [bR 6, bI v1, bI v2] M (b_pIp M Q) := b_met (by decide) ⟨rfl, rfl⟩ (Nat.le_of_ble_eq_true rfl) (fun _ _ => t_X4_leastNumber h)
abbrev xX4_decide : bX := ("BurntHall$Evidence", prog_6_method_12_code, 9, (Option.none : Option Jvm.ClassFile.FieldType), b_rm 5 0 0, 0, "decide")
abbrev yX4_decide : MethodName := ⟨"BurntHall$Evidence", "decide", "(II)V"⟩
theorem dX4_decide_0 : decode prog_6_method_12_code 0 = .ok (.iconst 0, 1) := by decide +kernel
theorem dX4_decide_1 : decode prog_6_method_12_code 1 = .ok (.istore_n 3, 1) := by decide +kernel
theorem dX4_decide_2 : decode prog_6_method_12_code 2 = .ok (.iconst 0, 1) := by decide +kernel
theorem dX4_decide_3 : decode prog_6_method_12_code 3 = .ok (.istore 4, 2) := by decide +kernel
theorem dX4_decide_5 : decode prog_6_method_12_code 5 = .ok (.iconst (-1), 1) := by decide +kernel
theorem dX4_decide_6 : decode prog_6_method_12_code 6 = .ok (.istore 5, 2) := by decide +kernel
theorem dX4_decide_8 : decode prog_6_method_12_code 8 = .ok (.iconst 0, 1) := by decide +kernel
theorem dX4_decide_9 : decode prog_6_method_12_code 9 = .ok (.istore 6, 2) := by decide +kernel
theorem dX4_decide_11 : decode prog_6_method_12_code 11 = .ok (.iload 6, 2) := by decide +kernel
theorem dX4_decide_13 : decode prog_6_method_12_code 13 = .ok (.aload_n 0, 1) := by decide +kernel
theorem dX4_decide_14 : decode prog_6_method_12_code 14 = .ok (.getfield 98, 3) := by decide +kernel
theorem dX4_decide_17 : decode prog_6_method_12_code 17 = .ok (.if_icmp .ge 82, 3) := by decide +kernel
theorem dX4_decide_20 : decode prog_6_method_12_code 20 = .ok (.aload_n 0, 1) := by decide +kernel
theorem dX4_decide_21 : decode prog_6_method_12_code 21 = .ok (.aload_n 0, 1) := by decide +kernel
theorem dX4_decide_22 : decode prog_6_method_12_code 22 = .ok (.getfield 21, 3) := by decide +kernel
theorem dX4_decide_25 : decode prog_6_method_12_code 25 = .ok (.iload 6, 2) := by decide +kernel
theorem dX4_decide_27 : decode prog_6_method_12_code 27 = .ok (.iaload, 1) := by decide +kernel
theorem dX4_decide_28 : decode prog_6_method_12_code 28 = .ok (.iload_n 2, 1) := by decide +kernel
theorem dX4_decide_29 : decode prog_6_method_12_code 29 = .ok (.invokevirtual 149, 3) := by decide +kernel
theorem dX4_decide_32 : decode prog_6_method_12_code 32 = .ok (.istore 7, 2) := by decide +kernel
theorem dX4_decide_34 : decode prog_6_method_12_code 34 = .ok (.iload 7, 2) := by decide +kernel
theorem dX4_decide_36 : decode prog_6_method_12_code 36 = .ok (.iconst (-1), 1) := by decide +kernel
theorem dX4_decide_37 : decode prog_6_method_12_code 37 = .ok (.if_icmp .eq 56, 3) := by decide +kernel
theorem dX4_decide_40 : decode prog_6_method_12_code 40 = .ok (.aload_n 0, 1) := by decide +kernel
theorem dX4_decide_41 : decode prog_6_method_12_code 41 = .ok (.iload 6, 2) := by decide +kernel
theorem dX4_decide_43 : decode prog_6_method_12_code 43 = .ok (.iload 7, 2) := by decide +kernel
theorem dX4_decide_45 : decode prog_6_method_12_code 45 = .ok (.iload_n 2, 1) := by decide +kernel
theorem dX4_decide_46 : decode prog_6_method_12_code 46 = .ok (.invokevirtual 152, 3) := by decide +kernel
theorem dX4_decide_49 : decode prog_6_method_12_code 49 = .ok (.ifCond .ne 44, 3) := by decide +kernel
theorem dX4_decide_52 : decode prog_6_method_12_code 52 = .ok (.aload_n 0, 1) := by decide +kernel
theorem dX4_decide_53 : decode prog_6_method_12_code 53 = .ok (.iload 7, 2) := by decide +kernel
theorem dX4_decide_55 : decode prog_6_method_12_code 55 = .ok (.iload_n 2, 1) := by decide +kernel
theorem dX4_decide_56 : decode prog_6_method_12_code 56 = .ok (.invokevirtual 155, 3) := by decide +kernel
theorem dX4_decide_59 : decode prog_6_method_12_code 59 = .ok (.istore 8, 2) := by decide +kernel
theorem dX4_decide_61 : decode prog_6_method_12_code 61 = .ok (.iload 8, 2) := by decide +kernel
theorem dX4_decide_63 : decode prog_6_method_12_code 63 = .ok (.iload_n 3, 1) := by decide +kernel
theorem dX4_decide_64 : decode prog_6_method_12_code 64 = .ok (.if_icmp .le 13, 3) := by decide +kernel
theorem dX4_decide_67 : decode prog_6_method_12_code 67 = .ok (.iload 8, 2) := by decide +kernel
theorem dX4_decide_69 : decode prog_6_method_12_code 69 = .ok (.istore_n 3, 1) := by decide +kernel
theorem dX4_decide_70 : decode prog_6_method_12_code 70 = .ok (.iconst 0, 1) := by decide +kernel
theorem dX4_decide_71 : decode prog_6_method_12_code 71 = .ok (.istore 4, 2) := by decide +kernel
theorem dX4_decide_73 : decode prog_6_method_12_code 73 = .ok (.iload 7, 2) := by decide +kernel
theorem dX4_decide_75 : decode prog_6_method_12_code 75 = .ok (.istore 5, 2) := by decide +kernel
theorem dX4_decide_77 : decode prog_6_method_12_code 77 = .ok (.iload 4, 2) := by decide +kernel
theorem dX4_decide_79 : decode prog_6_method_12_code 79 = .ok (.iload 8, 2) := by decide +kernel
theorem dX4_decide_81 : decode prog_6_method_12_code 81 = .ok (.iload_n 3, 1) := by decide +kernel
theorem dX4_decide_82 : decode prog_6_method_12_code 82 = .ok (.if_icmp .ne 7, 3) := by decide +kernel
theorem dX4_decide_85 : decode prog_6_method_12_code 85 = .ok (.iconst 1, 1) := by decide +kernel
theorem dX4_decide_86 : decode prog_6_method_12_code 86 = .ok (.goto 4, 3) := by decide +kernel
theorem dX4_decide_89 : decode prog_6_method_12_code 89 = .ok (.iconst 0, 1) := by decide +kernel
theorem dX4_decide_90 : decode prog_6_method_12_code 90 = .ok (.iadd, 1) := by decide +kernel
theorem dX4_decide_91 : decode prog_6_method_12_code 91 = .ok (.istore 4, 2) := by decide +kernel
theorem dX4_decide_93 : decode prog_6_method_12_code 93 = .ok (.iinc 6 1, 3) := by decide +kernel
theorem dX4_decide_96 : decode prog_6_method_12_code 96 = .ok (.goto (-85), 3) := by decide +kernel
theorem dX4_decide_99 : decode prog_6_method_12_code 99 = .ok (.iload_n 3, 1) := by decide +kernel
theorem dX4_decide_100 : decode prog_6_method_12_code 100 = .ok (.ifCond .le 19, 3) := by decide +kernel
theorem dX4_decide_103 : decode prog_6_method_12_code 103 = .ok (.iload_n 3, 1) := by decide +kernel
theorem dX4_decide_104 : decode prog_6_method_12_code 104 = .ok (.aload_n 0, 1) := by decide +kernel
theorem dX4_decide_105 : decode prog_6_method_12_code 105 = .ok (.invokevirtual 158, 3) := by decide +kernel
theorem dX4_decide_108 : decode prog_6_method_12_code 108 = .ok (.iconst 0, 1) := by decide +kernel
theorem dX4_decide_109 : decode prog_6_method_12_code 109 = .ok (.invokevirtual 164, 3) := by decide +kernel
theorem dX4_decide_112 : decode prog_6_method_12_code 112 = .ok (.if_icmp .lt 7, 3) := by decide +kernel
theorem dX4_decide_115 : decode prog_6_method_12_code 115 = .ok (.iconst 1, 1) := by decide +kernel
theorem dX4_decide_116 : decode prog_6_method_12_code 116 = .ok (.goto 4, 3) := by decide +kernel
theorem dX4_decide_119 : decode prog_6_method_12_code 119 = .ok (.iconst 0, 1) := by decide +kernel
theorem dX4_decide_120 : decode prog_6_method_12_code 120 = .ok (.istore 6, 2) := by decide +kernel
theorem dX4_decide_122 : decode prog_6_method_12_code 122 = .ok (.iload 6, 2) := by decide +kernel
theorem dX4_decide_124 : decode prog_6_method_12_code 124 = .ok (.ifCond .eq 13, 3) := by decide +kernel
theorem dX4_decide_127 : decode prog_6_method_12_code 127 = .ok (.iload 4, 2) := by decide +kernel
theorem dX4_decide_129 : decode prog_6_method_12_code 129 = .ok (.iconst 1, 1) := by decide +kernel
theorem dX4_decide_130 : decode prog_6_method_12_code 130 = .ok (.if_icmp .ne 7, 3) := by decide +kernel
theorem dX4_decide_133 : decode prog_6_method_12_code 133 = .ok (.iconst 1, 1) := by decide +kernel
theorem dX4_decide_134 : decode prog_6_method_12_code 134 = .ok (.goto 4, 3) := by decide +kernel
theorem dX4_decide_137 : decode prog_6_method_12_code 137 = .ok (.iconst 0, 1) := by decide +kernel
theorem dX4_decide_138 : decode prog_6_method_12_code 138 = .ok (.istore 7, 2) := by decide +kernel
theorem dX4_decide_140 : decode prog_6_method_12_code 140 = .ok (.aload_n 0, 1) := by decide +kernel
theorem dX4_decide_141 : decode prog_6_method_12_code 141 = .ok (.getfield 11, 3) := by decide +kernel
theorem dX4_decide_144 : decode prog_6_method_12_code 144 = .ok (.iload_n 1, 1) := by decide +kernel
theorem dX4_decide_145 : decode prog_6_method_12_code 145 = .ok (.iload_n 2, 1) := by decide +kernel
theorem dX4_decide_146 : decode prog_6_method_12_code 146 = .ok (.iadd, 1) := by decide +kernel
theorem dX4_decide_147 : decode prog_6_method_12_code 147 = .ok (.iload 7, 2) := by decide +kernel
theorem dX4_decide_149 : decode prog_6_method_12_code 149 = .ok (.ifCond .eq 13, 3) := by decide +kernel
theorem dX4_decide_152 : decode prog_6_method_12_code 152 = .ok (.aload_n 0, 1) := by decide +kernel
theorem dX4_decide_153 : decode prog_6_method_12_code 153 = .ok (.iload 5, 2) := by decide +kernel
theorem dX4_decide_155 : decode prog_6_method_12_code 155 = .ok (.iload_n 2, 1) := by decide +kernel
theorem dX4_decide_156 : decode prog_6_method_12_code 156 = .ok (.invokevirtual 167, 3) := by decide +kernel
theorem dX4_decide_159 : decode prog_6_method_12_code 159 = .ok (.goto 4, 3) := by decide +kernel
theorem dX4_decide_162 : decode prog_6_method_12_code 162 = .ok (.iconst (-1), 1) := by decide +kernel
theorem dX4_decide_163 : decode prog_6_method_12_code 163 = .ok (.iastore, 1) := by decide +kernel
theorem dX4_decide_164 : decode prog_6_method_12_code 164 = .ok (.aload_n 0, 1) := by decide +kernel
theorem dX4_decide_165 : decode prog_6_method_12_code 165 = .ok (.getfield 11, 3) := by decide +kernel
theorem dX4_decide_168 : decode prog_6_method_12_code 168 = .ok (.iload_n 1, 1) := by decide +kernel
theorem dX4_decide_169 : decode prog_6_method_12_code 169 = .ok (.iconst 5, 1) := by decide +kernel
theorem dX4_decide_170 : decode prog_6_method_12_code 170 = .ok (.iadd, 1) := by decide +kernel
theorem dX4_decide_171 : decode prog_6_method_12_code 171 = .ok (.iload_n 2, 1) := by decide +kernel
theorem dX4_decide_172 : decode prog_6_method_12_code 172 = .ok (.iadd, 1) := by decide +kernel
theorem dX4_decide_173 : decode prog_6_method_12_code 173 = .ok (.iload 7, 2) := by decide +kernel
theorem dX4_decide_175 : decode prog_6_method_12_code 175 = .ok (.ifCond .eq 7, 3) := by decide +kernel
theorem dX4_decide_178 : decode prog_6_method_12_code 178 = .ok (.iload_n 3, 1) := by decide +kernel
theorem dX4_decide_179 : decode prog_6_method_12_code 179 = .ok (.goto 4, 3) := by decide +kernel
theorem dX4_decide_182 : decode prog_6_method_12_code 182 = .ok (.iconst 0, 1) := by decide +kernel
theorem dX4_decide_183 : decode prog_6_method_12_code 183 = .ok (.iastore, 1) := by decide +kernel
theorem dX4_decide_184 : decode prog_6_method_12_code 184 = .ok (.iload 6, 2) := by decide +kernel
theorem dX4_decide_186 : decode prog_6_method_12_code 186 = .ok (.ifCond .eq 23, 3) := by decide +kernel
theorem dX4_decide_189 : decode prog_6_method_12_code 189 = .ok (.iload 7, 2) := by decide +kernel
theorem dX4_decide_191 : decode prog_6_method_12_code 191 = .ok (.ifCond .ne 18, 3) := by decide +kernel
theorem dX4_decide_194 : decode prog_6_method_12_code 194 = .ok (.aload_n 0, 1) := by decide +kernel
theorem dX4_decide_195 : decode prog_6_method_12_code 195 = .ok (.getfield 11, 3) := by decide +kernel
theorem dX4_decide_198 : decode prog_6_method_12_code 198 = .ok (.iload_n 1, 1) := by decide +kernel
theorem dX4_decide_199 : decode prog_6_method_12_code 199 = .ok (.bipush 9, 2) := by decide +kernel
theorem dX4_decide_201 : decode prog_6_method_12_code 201 = .ok (.iadd, 1) := by decide +kernel
theorem dX4_decide_202 : decode prog_6_method_12_code 202 = .ok (.dup2, 1) := by decide +kernel
theorem dX4_decide_203 : decode prog_6_method_12_code 203 = .ok (.iaload, 1) := by decide +kernel
theorem dX4_decide_204 : decode prog_6_method_12_code 204 = .ok (.iconst 1, 1) := by decide +kernel
theorem dX4_decide_205 : decode prog_6_method_12_code 205 = .ok (.iload_n 2, 1) := by decide +kernel
theorem dX4_decide_206 : decode prog_6_method_12_code 206 = .ok (.ishl, 1) := by decide +kernel
theorem dX4_decide_207 : decode prog_6_method_12_code 207 = .ok (.ior, 1) := by decide +kernel
theorem dX4_decide_208 : decode prog_6_method_12_code 208 = .ok (.iastore, 1) := by decide +kernel
theorem dX4_decide_209 : decode prog_6_method_12_code 209 = .ok (.return_, 1) := by decide +kernel
abbrev A_X4_decide_11 (l : Launch) (E : bE) (Q : bM → Prop) (v1 : Int) (v2 : Int) : (Int × Int × Int × Int × bM) → Prop := (fun t : Int × Int × Int × Int × bM => V l E xX4_decide (0, 0) 11 [(0, bR 6), (1, bI v1), (2, bI v2), (3, bI (t.1)), (4, bI (t.2.1)), (5, bI (t.2.2.1)), (6, bI (t.2.2.2.1))] [] t.2.2.2.2 (b_pV Q))
abbrev X_X4_decide_11 (l : Launch) (E : bE) (Q : bM → Prop) (v1 : Int) (v2 : Int) : (Int × Int × Int × bM) → Prop := (fun t : Int × Int × Int × bM => V l E xX4_decide (0, 0) 99 [(0, bR 6), (1, bI v1), (2, bI v2), (3, bI (t.1)), (4, bI (t.2.1)), (5, bI (t.2.2.1))] [] t.2.2.2 (b_pV Q))
noncomputable def F_X4_decide_b90 (v1 : Int) (v2 : Int) (v3 : Int) (v5 : Int) (v6 : Int) (u0 : Int) (u1 : Int) (M : bM) : Option ((Int × Int × Int × Int × bM) ⊕ (Int × Int × Int × bM)) :=
  b_g ((b_i32 (u0 + u1)) ∧ (b_i32 (v6 + 1))) (some (.inl (v3, (u0 + u1), v5, (v6 + 1), M)))
theorem t_X4_decide_b90 {l : Launch} {E : bE} {Q : bM → Prop} {v1 : Int} {v2 : Int} {v3 : Int} {v5 : Int} {v6 : Int} {u0 : Int} {u1 : Int} {M : bM} (h : b_wp (F_X4_decide_b90 v1 v2 v3 v5 v6 u0 u1 M) (Sum.elim (A_X4_decide_11 l E Q v1 v2) (X_X4_decide_11 l E Q v1 v2))) : V l E xX4_decide (0, 0) 90 [(0, bR 6), (1, bI v1), (2, bI v2), (3, bI v3), (5, bI v5), (6, bI v6)] [bI u1, bI u0] M (b_pV Q) := by
  unfold F_X4_decide_b90 at h
  obtain ⟨⟨g13, g14⟩, h⟩ := b_wp_g h
  refine v_iaddN g13 dX4_decide_90 ?_
  refine v_istore (i := 4) (ls' := [(4, bI _), (0, bR _), (1, bI _), (2, bI _), (3, bI _), (5, bI _), (6, bI _)]) (by decide) dX4_decide_91 rfl ?_
  refine v_iincN (ls' := [(6, bI _), (4, bI _), (0, bR _), (1, bI _), (2, bI _), (3, bI _), (5, bI _)]) 6 rfl (by decide) g14 dX4_decide_93 rfl ?_
  refine v_goto (tgt := 11) dX4_decide_96 (by decide) ?_
  refine v_sub (ls2 := [(0, bR _), (1, bI _), (2, bI _), (3, bI _), (4, bI _), (5, bI _), (6, bI _)]) [2, 3, 4, 5, 1, 6, 0] rfl ?_
  exact h
noncomputable def F_X4_decide_b77 (v1 : Int) (v2 : Int) (v3 : Int) (v4 : Int) (v5 : Int) (v6 : Int) (v8 : Int) (M : bM) : Option ((Int × Int × Int × Int × bM) ⊕ (Int × Int × Int × bM)) :=
  if v8 = v3 then (F_X4_decide_b90 v1 v2 v3 v5 v6 v4 1 M) else (F_X4_decide_b90 v1 v2 v3 v5 v6 v4 0 M)
theorem t_X4_decide_b77 {l : Launch} {E : bE} {Q : bM → Prop} {v1 : Int} {v2 : Int} {v3 : Int} {v4 : Int} {v5 : Int} {v6 : Int} {v8 : Int} {M : bM} (h : b_wp (F_X4_decide_b77 v1 v2 v3 v4 v5 v6 v8 M) (Sum.elim (A_X4_decide_11 l E Q v1 v2) (X_X4_decide_11 l E Q v1 v2))) : V l E xX4_decide (0, 0) 77 [(0, bR 6), (1, bI v1), (2, bI v2), (3, bI v3), (4, bI v4), (5, bI v5), (6, bI v6), (8, bI v8)] [] M (b_pV Q) := by
  unfold F_X4_decide_b77 at h
  refine v_iload (i := 4) 4 rfl dX4_decide_77 ?_
  refine v_iload (i := 8) 7 rfl dX4_decide_79 ?_
  refine v_iload_n (f := 3) 3 rfl dX4_decide_81 ?_
  refine v_icmp_ne (tgt := 89) dX4_decide_82 (by decide) (fun c12 => ?_) (fun c12 => ?_)
  · replace h := b_wp_f c12 h
    refine v_iconst ⟨by decide, by decide⟩ dX4_decide_89 ?_
    refine v_sub (ls2 := [(0, bR _), (1, bI _), (2, bI _), (3, bI _), (5, bI _), (6, bI _)]) [0, 1, 2, 3, 5, 6] rfl ?_
    exact t_X4_decide_b90 h
  · replace h := b_wp_t c12 h
    refine v_iconst ⟨by decide, by decide⟩ dX4_decide_85 ?_
    refine v_goto (tgt := 90) dX4_decide_86 (by decide) ?_
    refine v_sub (ls2 := [(0, bR _), (1, bI _), (2, bI _), (3, bI _), (5, bI _), (6, bI _)]) [0, 1, 2, 3, 5, 6] rfl ?_
    exact t_X4_decide_b90 h
noncomputable def F_X4_decide_s11 (v1 : Int) (v2 : Int) (v3 : Int) (v4 : Int) (v5 : Int) (v6 : Int) (M : bM) : Option ((Int × Int × Int × Int × bM) ⊕ (Int × Int × Int × bM)) :=
  if (M 6 11) ≤ v6 then (some (.inr (v3, v4, v5, M))) else (b_g (0 ≤ v6 ∧ v6 < 120) (b_bind (F_X4_thing (M 128 v6) v2 M) (fun x3 => if x3 = (-1) then (b_g (b_i32 (v6 + 1)) (some (.inl (v3, v4, v5, (v6 + 1), M)))) else (b_bind (F_X4_wasSaid v6 x3 v2 M) (fun x6 => if x6 = 0 then (b_bind (F_X4_sumOf x3 v2 M) (fun t => b_two t (fun x9 M10 => if x9 ≤ v3 then (F_X4_decide_b77 v1 v2 v3 v4 v5 v6 x9 M10) else (F_X4_decide_b77 v1 v2 x9 0 x3 v6 x9 M10)))) else (b_g (b_i32 (v6 + 1)) (some (.inl (v3, v4, v5, (v6 + 1), M)))))))))
theorem t_X4_decide_s11 {l : Launch} {E : bE} {Q : bM → Prop} {v1 : Int} {v2 : Int} {v3 : Int} {v4 : Int} {v5 : Int} {v6 : Int} {M : bM} (h : b_wp (F_X4_decide_s11 v1 v2 v3 v4 v5 v6 M) (Sum.elim (A_X4_decide_11 l E Q v1 v2) (X_X4_decide_11 l E Q v1 v2))) : V l E xX4_decide (0, 0) 11 [(0, bR 6), (1, bI v1), (2, bI v2), (3, bI v3), (4, bI v4), (5, bI v5), (6, bI v6)] [] M (b_pV Q) := by
  unfold F_X4_decide_s11 at h
  refine v_iload (i := 6) 6 rfl dX4_decide_11 ?_
  refine v_aload_n (f := 0) 0 rfl dX4_decide_13 ?_
  refine v_getI (kf := 11) (kz := 11) rfl kd_6 rfl ⟨by decide, by decide⟩ rfl wf_4_98 dX4_decide_14 ?_
  refine v_icmp_ge (tgt := 99) dX4_decide_17 (by decide) (fun c1 => ?_) (fun c1 => ?_)
  · replace h := b_wp_t c1 h
    refine v_sub (ls2 := [(0, bR _), (1, bI _), (2, bI _), (3, bI _), (4, bI _), (5, bI _)]) [0, 1, 2, 3, 4, 5] rfl ?_
    exact h
  · replace h := b_wp_f c1 h
    obtain ⟨g2, h⟩ := b_wp_g h
    refine v_aload_n (f := 0) 0 rfl dX4_decide_20 ?_
    refine v_aload_n (f := 0) 0 rfl dX4_decide_21 ?_
    refine v_getR (kf := 10) (kz := 10) rfl kd_6 rfl ⟨by decide, by decide⟩ rfl wf_4_21 dX4_decide_22 ?_
    refine v_iload (i := 6) 6 rfl dX4_decide_25 ?_
    refine v_iaload kd_128 g2 (by decide) dX4_decide_27 ?_
    refine v_iload_n (f := 2) 2 rfl dX4_decide_28 ?_
    refine v_cVIp (nA := 2) (As := [bI _, bI _]) (ix := 149) (cf_X4_thing (b_wp_b h)) rfl kd_6 rfl rfl wc_X4_thing wm_4_149 wi_X4_thing ws_X4_thing wn_4 ⟨by decide, by decide, by decide⟩ rfl ⟨by decide, by decide⟩ ⟨by decide, by decide⟩ (Nat.le_of_ble_eq_true rfl) dX4_decide_29 (fun x3 h => ?_)
    refine v_istore (i := 7) (ls' := [(7, bI _), (0, bR _), (1, bI _), (2, bI _), (3, bI _), (4, bI _), (5, bI _), (6, bI _)]) (by decide) dX4_decide_32 rfl ?_
    refine v_iload (i := 7) 0 rfl dX4_decide_34 ?_
    refine v_iconst ⟨by decide, by decide⟩ dX4_decide_36 ?_
    refine v_icmp_eq (tgt := 93) dX4_decide_37 (by decide) (fun c4 => ?_) (fun c4 => ?_)
    · replace h := b_wp_t c4 h
      obtain ⟨g5, h⟩ := b_wp_g h
      refine v_iincN (ls' := [(6, bI _), (7, bI _), (0, bR _), (1, bI _), (2, bI _), (3, bI _), (4, bI _), (5, bI _)]) 7 rfl (by decide) g5 dX4_decide_93 rfl ?_
      refine v_goto (tgt := 11) dX4_decide_96 (by decide) ?_
      refine v_sub (ls2 := [(0, bR _), (1, bI _), (2, bI _), (3, bI _), (4, bI _), (5, bI _), (6, bI _)]) [2, 3, 4, 5, 6, 7, 0] rfl ?_
      exact h
    · replace h := b_wp_f c4 h
      refine v_aload_n (f := 0) 1 rfl dX4_decide_40 ?_
      refine v_iload (i := 6) 7 rfl dX4_decide_41 ?_
      refine v_iload (i := 7) 0 rfl dX4_decide_43 ?_
      refine v_iload_n (f := 2) 3 rfl dX4_decide_45 ?_
      refine v_cVIp (nA := 3) (As := [bI _, bI _, bI _]) (ix := 152) (cf_X4_wasSaid (b_wp_b h)) rfl kd_6 rfl rfl wc_X4_wasSaid wm_4_152 wi_X4_wasSaid ws_X4_wasSaid wn_4 ⟨by decide, by decide, by decide⟩ rfl ⟨by decide, by decide⟩ ⟨by decide, by decide⟩ (Nat.le_of_ble_eq_true rfl) dX4_decide_46 (fun x6 h => ?_)
      refine v_if_ne (tgt := 93) dX4_decide_49 (by decide) (fun c7 => ?_) (fun c7 => ?_)
      · replace h := b_wp_f c7 h
        obtain ⟨g8, h⟩ := b_wp_g h
        refine v_iincN (ls' := [(6, bI _), (7, bI _), (0, bR _), (1, bI _), (2, bI _), (3, bI _), (4, bI _), (5, bI _)]) 7 rfl (by decide) g8 dX4_decide_93 rfl ?_
        refine v_goto (tgt := 11) dX4_decide_96 (by decide) ?_
        refine v_sub (ls2 := [(0, bR _), (1, bI _), (2, bI _), (3, bI _), (4, bI _), (5, bI _), (6, bI _)]) [2, 3, 4, 5, 6, 7, 0] rfl ?_
        exact h
      · replace h := b_wp_t c7 h
        refine v_aload_n (f := 0) 1 rfl dX4_decide_52 ?_
        refine v_iload (i := 7) 0 rfl dX4_decide_53 ?_
        refine v_iload_n (f := 2) 3 rfl dX4_decide_55 ?_
        refine v_cVI (nA := 2) (As := [bI _, bI _]) (ix := 155) (cf_X4_sumOf (b_wp_b h)) rfl kd_6 rfl rfl wc_X4_sumOf wm_4_155 wi_X4_sumOf ws_X4_sumOf wn_4 ⟨by decide, by decide, by decide⟩ rfl ⟨by decide, by decide⟩ ⟨by decide, by decide⟩ (Nat.le_of_ble_eq_true rfl) dX4_decide_56 (fun x9 M10 h => ?_)
        replace h := b_wp_two h
        refine v_istore (i := 8) (ls' := [(8, bI _), (7, bI _), (0, bR _), (1, bI _), (2, bI _), (3, bI _), (4, bI _), (5, bI _), (6, bI _)]) (by decide) dX4_decide_59 rfl ?_
        refine v_iload (i := 8) 0 rfl dX4_decide_61 ?_
        refine v_iload_n (f := 3) 5 rfl dX4_decide_63 ?_
        refine v_icmp_le (tgt := 77) dX4_decide_64 (by decide) (fun c11 => ?_) (fun c11 => ?_)
        · replace h := b_wp_t c11 h
          refine v_sub (ls2 := [(0, bR _), (1, bI _), (2, bI _), (3, bI _), (4, bI _), (5, bI _), (6, bI _), (8, bI _)]) [2, 3, 4, 5, 6, 7, 8, 0] rfl ?_
          exact t_X4_decide_b77 h
        · replace h := b_wp_f c11 h
          refine v_iload (i := 8) 0 rfl dX4_decide_67 ?_
          refine v_istore_n (g := 3) (i := 3) (ls' := [(3, bI _), (8, bI _), (7, bI _), (0, bR _), (1, bI _), (2, bI _), (4, bI _), (5, bI _), (6, bI _)]) rfl (by decide) dX4_decide_69 rfl ?_
          refine v_iconst ⟨by decide, by decide⟩ dX4_decide_70 ?_
          refine v_istore (i := 4) (ls' := [(4, bI _), (3, bI _), (8, bI _), (7, bI _), (0, bR _), (1, bI _), (2, bI _), (5, bI _), (6, bI _)]) (by decide) dX4_decide_71 rfl ?_
          refine v_iload (i := 7) 3 rfl dX4_decide_73 ?_
          refine v_istore (i := 5) (ls' := [(5, bI _), (4, bI _), (3, bI _), (8, bI _), (7, bI _), (0, bR _), (1, bI _), (2, bI _), (6, bI _)]) (by decide) dX4_decide_75 rfl ?_
          refine v_sub (ls2 := [(0, bR _), (1, bI _), (2, bI _), (3, bI _), (4, bI _), (5, bI _), (6, bI _), (8, bI _)]) [5, 6, 7, 2, 1, 0, 8, 3] rfl ?_
          exact t_X4_decide_b77 h
theorem l_X4_decide_11 {l : Launch} {E : bE} {Q : bM → Prop} {v1 : Int} {v2 : Int} {s : Int × Int × Int × Int × bM} (h : b_wp (b_loop (fun t => F_X4_decide_s11 v1 v2 t.1 t.2.1 t.2.2.1 t.2.2.2.1 t.2.2.2.2) s) (X_X4_decide_11 l E Q v1 v2)) : A_X4_decide_11 l E Q v1 v2 s := b_loop_wp (fun t h => t_X4_decide_s11 h) s h
noncomputable def F_X4_decide_b183 (v1 : Int) (v2 : Int) (v6 : Int) (v7 : Int) (u1 : Int) (u2 : Int) (M : bM) : Option (bM) :=
  b_g (0 ≤ u1 ∧ u1 < 300) (b_let (b_up M 126 u1 u2) (fun M25 => if v6 = 0 then (some M25) else (if v7 = 0 then (b_g ((b_i32 (v1 + 9)) ∧ (0 ≤ (v1 + 9) ∧ (v1 + 9) < 300)) (b_let (b_up M25 126 (v1 + 9) (i_or (M25 126 (v1 + 9)) (i_shl 1 v2))) (fun M30 => some M30))) else (some M25))))
theorem t_X4_decide_b183 {l : Launch} {E : bE} {Q : bM → Prop} {v1 : Int} {v2 : Int} {v6 : Int} {v7 : Int} {u1 : Int} {u2 : Int} {M : bM} (h : b_wp (F_X4_decide_b183 v1 v2 v6 v7 u1 u2 M) (Q)) : V l E xX4_decide (0, 0) 183 [(0, bR 6), (1, bI v1), (2, bI v2), (6, bI v6), (7, bI v7)] [bI u2, bI u1, bR 126] M (b_pV Q) := by
  unfold F_X4_decide_b183 at h
  obtain ⟨g24, h⟩ := b_wp_g h
  refine v_iastore kd_126 g24 (by decide) dX4_decide_183 ?_
  replace h := b_wp_l h
  refine v_iload (i := 6) 3 rfl dX4_decide_184 ?_
  refine v_if_eq (tgt := 209) dX4_decide_186 (by decide) (fun c26 => ?_) (fun c26 => ?_)
  · replace h := b_wp_t c26 h
    refine v_return rfl dX4_decide_209 ⟨by decide, by decide⟩ ?_
    exact ⟨rfl, h⟩
  · replace h := b_wp_f c26 h
    refine v_iload (i := 7) 4 rfl dX4_decide_189 ?_
    refine v_if_ne (tgt := 209) dX4_decide_191 (by decide) (fun c27 => ?_) (fun c27 => ?_)
    · replace h := b_wp_f c27 h
      refine v_return rfl dX4_decide_209 ⟨by decide, by decide⟩ ?_
      exact ⟨rfl, h⟩
    · replace h := b_wp_t c27 h
      obtain ⟨⟨g28, g29⟩, h⟩ := b_wp_g h
      refine v_aload_n (f := 0) 0 rfl dX4_decide_194 ?_
      refine v_getR (kf := 8) (kz := 8) rfl kd_6 rfl ⟨by decide, by decide⟩ rfl wf_4_11 dX4_decide_195 ?_
      refine v_iload_n (f := 1) 1 rfl dX4_decide_198 ?_
      refine v_bipush ⟨by decide, by decide⟩ (by decide) dX4_decide_199 ?_
      refine v_iaddN g28 dX4_decide_201 ?_
      refine v_dup2 rfl rfl dX4_decide_202 ?_
      refine v_iaload kd_126 g29 (by decide) dX4_decide_203 ?_
      refine v_iconst ⟨by decide, by decide⟩ dX4_decide_204 ?_
      refine v_iload_n (f := 2) 2 rfl dX4_decide_205 ?_
      refine v_ishl (v := i_shl _ _) rfl dX4_decide_206 ?_
      refine v_ior (v := i_or _ _) rfl dX4_decide_207 ?_
      refine v_iastore kd_126 g29 (by decide) dX4_decide_208 ?_
      replace h := b_wp_l h
      refine v_return rfl dX4_decide_209 ⟨by decide, by decide⟩ ?_
      exact ⟨rfl, h⟩
noncomputable def F_X4_decide_b163 (v1 : Int) (v2 : Int) (v3 : Int) (v6 : Int) (v7 : Int) (u1 : Int) (u2 : Int) (M : bM) : Option (bM) :=
  b_g (0 ≤ u1 ∧ u1 < 300) (b_let (b_up M 126 u1 u2) (fun M20 => b_g ((b_i32 (v1 + 5)) ∧ (b_i32 ((v1 + 5) + v2))) (if v7 = 0 then (F_X4_decide_b183 v1 v2 v6 v7 ((v1 + 5) + v2) 0 M20) else (F_X4_decide_b183 v1 v2 v6 v7 ((v1 + 5) + v2) v3 M20))))
theorem t_X4_decide_b163 {l : Launch} {E : bE} {Q : bM → Prop} {v1 : Int} {v2 : Int} {v3 : Int} {v6 : Int} {v7 : Int} {u1 : Int} {u2 : Int} {M : bM} (h : b_wp (F_X4_decide_b163 v1 v2 v3 v6 v7 u1 u2 M) (Q)) : V l E xX4_decide (0, 0) 163 [(0, bR 6), (1, bI v1), (2, bI v2), (3, bI v3), (6, bI v6), (7, bI v7)] [bI u2, bI u1, bR 126] M (b_pV Q) := by
  unfold F_X4_decide_b163 at h
  obtain ⟨g19, h⟩ := b_wp_g h
  refine v_iastore kd_126 g19 (by decide) dX4_decide_163 ?_
  replace h := b_wp_l h
  obtain ⟨⟨g21, g22⟩, h⟩ := b_wp_g h
  refine v_aload_n (f := 0) 0 rfl dX4_decide_164 ?_
  refine v_getR (kf := 8) (kz := 8) rfl kd_6 rfl ⟨by decide, by decide⟩ rfl wf_4_11 dX4_decide_165 ?_
  refine v_iload_n (f := 1) 1 rfl dX4_decide_168 ?_
  refine v_iconst ⟨by decide, by decide⟩ dX4_decide_169 ?_
  refine v_iaddN g21 dX4_decide_170 ?_
  refine v_iload_n (f := 2) 2 rfl dX4_decide_171 ?_
  refine v_iaddN g22 dX4_decide_172 ?_
  refine v_iload (i := 7) 5 rfl dX4_decide_173 ?_
  refine v_if_eq (tgt := 182) dX4_decide_175 (by decide) (fun c23 => ?_) (fun c23 => ?_)
  · replace h := b_wp_t c23 h
    refine v_iconst ⟨by decide, by decide⟩ dX4_decide_182 ?_
    refine v_sub (ls2 := [(0, bR _), (1, bI _), (2, bI _), (6, bI _), (7, bI _)]) [0, 1, 2, 4, 5] rfl ?_
    exact t_X4_decide_b183 h
  · replace h := b_wp_f c23 h
    refine v_iload_n (f := 3) 3 rfl dX4_decide_178 ?_
    refine v_goto (tgt := 183) dX4_decide_179 (by decide) ?_
    refine v_sub (ls2 := [(0, bR _), (1, bI _), (2, bI _), (6, bI _), (7, bI _)]) [0, 1, 2, 4, 5] rfl ?_
    exact t_X4_decide_b183 h
noncomputable def F_X4_decide_b138 (v1 : Int) (v2 : Int) (v3 : Int) (v5 : Int) (v6 : Int) (u0 : Int) (M : bM) : Option (bM) :=
  b_g (b_i32 (v1 + v2)) (if u0 = 0 then (F_X4_decide_b163 v1 v2 v3 v6 u0 (v1 + v2) (-1) M) else (b_bind (F_X4_leastNumber v5 v2 M) (fun x31 => F_X4_decide_b163 v1 v2 v3 v6 u0 (v1 + v2) x31 M)))
theorem t_X4_decide_b138 {l : Launch} {E : bE} {Q : bM → Prop} {v1 : Int} {v2 : Int} {v3 : Int} {v5 : Int} {v6 : Int} {u0 : Int} {M : bM} (h : b_wp (F_X4_decide_b138 v1 v2 v3 v5 v6 u0 M) (Q)) : V l E xX4_decide (0, 0) 138 [(0, bR 6), (1, bI v1), (2, bI v2), (3, bI v3), (5, bI v5), (6, bI v6)] [bI u0] M (b_pV Q) := by
  unfold F_X4_decide_b138 at h
  obtain ⟨g17, h⟩ := b_wp_g h
  refine v_istore (i := 7) (ls' := [(7, bI _), (0, bR _), (1, bI _), (2, bI _), (3, bI _), (5, bI _), (6, bI _)]) (by decide) dX4_decide_138 rfl ?_
  refine v_aload_n (f := 0) 1 rfl dX4_decide_140 ?_
  refine v_getR (kf := 8) (kz := 8) rfl kd_6 rfl ⟨by decide, by decide⟩ rfl wf_4_11 dX4_decide_141 ?_
  refine v_iload_n (f := 1) 2 rfl dX4_decide_144 ?_
  refine v_iload_n (f := 2) 3 rfl dX4_decide_145 ?_
  refine v_iaddN g17 dX4_decide_146 ?_
  refine v_iload (i := 7) 0 rfl dX4_decide_147 ?_
  refine v_if_eq (tgt := 162) dX4_decide_149 (by decide) (fun c18 => ?_) (fun c18 => ?_)
  · replace h := b_wp_t c18 h
    refine v_iconst ⟨by decide, by decide⟩ dX4_decide_162 ?_
    refine v_sub (ls2 := [(0, bR _), (1, bI _), (2, bI _), (3, bI _), (6, bI _), (7, bI _)]) [1, 2, 3, 4, 6, 0] rfl ?_
    exact t_X4_decide_b163 h
  · replace h := b_wp_f c18 h
    refine v_aload_n (f := 0) 1 rfl dX4_decide_152 ?_
    refine v_iload (i := 5) 5 rfl dX4_decide_153 ?_
    refine v_iload_n (f := 2) 3 rfl dX4_decide_155 ?_
    refine v_cVIp (nA := 2) (As := [bI _, bI _]) (ix := 167) (cf_X4_leastNumber (b_wp_b h)) rfl kd_6 rfl rfl wc_X4_leastNumber wm_4_167 wi_X4_leastNumber ws_X4_leastNumber wn_4 ⟨by decide, by decide, by decide⟩ rfl ⟨by decide, by decide⟩ ⟨by decide, by decide⟩ (Nat.le_of_ble_eq_true rfl) dX4_decide_156 (fun x31 h => ?_)
    refine v_goto (tgt := 163) dX4_decide_159 (by decide) ?_
    refine v_sub (ls2 := [(0, bR _), (1, bI _), (2, bI _), (3, bI _), (6, bI _), (7, bI _)]) [1, 2, 3, 4, 6, 0] rfl ?_
    exact t_X4_decide_b163 h
noncomputable def F_X4_decide_b137 (v1 : Int) (v2 : Int) (v3 : Int) (v5 : Int) (v6 : Int) (M : bM) : Option (bM) :=
  F_X4_decide_b138 v1 v2 v3 v5 v6 0 M
theorem t_X4_decide_b137 {l : Launch} {E : bE} {Q : bM → Prop} {v1 : Int} {v2 : Int} {v3 : Int} {v5 : Int} {v6 : Int} {M : bM} (h : b_wp (F_X4_decide_b137 v1 v2 v3 v5 v6 M) (Q)) : V l E xX4_decide (0, 0) 137 [(0, bR 6), (1, bI v1), (2, bI v2), (3, bI v3), (5, bI v5), (6, bI v6)] [] M (b_pV Q) := by
  unfold F_X4_decide_b137 at h
  refine v_iconst ⟨by decide, by decide⟩ dX4_decide_137 ?_
  exact t_X4_decide_b138 h
noncomputable def F_X4_decide_b120 (v1 : Int) (v2 : Int) (v3 : Int) (v4 : Int) (v5 : Int) (u0 : Int) (M : bM) : Option (bM) :=
  if u0 = 0 then (F_X4_decide_b137 v1 v2 v3 v5 u0 M) else (if v4 = 1 then (F_X4_decide_b138 v1 v2 v3 v5 u0 1 M) else (F_X4_decide_b137 v1 v2 v3 v5 u0 M))
theorem t_X4_decide_b120 {l : Launch} {E : bE} {Q : bM → Prop} {v1 : Int} {v2 : Int} {v3 : Int} {v4 : Int} {v5 : Int} {u0 : Int} {M : bM} (h : b_wp (F_X4_decide_b120 v1 v2 v3 v4 v5 u0 M) (Q)) : V l E xX4_decide (0, 0) 120 [(0, bR 6), (1, bI v1), (2, bI v2), (3, bI v3), (4, bI v4), (5, bI v5)] [bI u0] M (b_pV Q) := by
  unfold F_X4_decide_b120 at h
  refine v_istore (i := 6) (ls' := [(6, bI _), (0, bR _), (1, bI _), (2, bI _), (3, bI _), (4, bI _), (5, bI _)]) (by decide) dX4_decide_120 rfl ?_
  refine v_iload (i := 6) 0 rfl dX4_decide_122 ?_
  refine v_if_eq (tgt := 137) dX4_decide_124 (by decide) (fun c16 => ?_) (fun c16 => ?_)
  · replace h := b_wp_t c16 h
    refine v_sub (ls2 := [(0, bR _), (1, bI _), (2, bI _), (3, bI _), (5, bI _), (6, bI _)]) [1, 2, 3, 4, 6, 0] rfl ?_
    exact t_X4_decide_b137 h
  · replace h := b_wp_f c16 h
    refine v_iload (i := 4) 5 rfl dX4_decide_127 ?_
    refine v_iconst ⟨by decide, by decide⟩ dX4_decide_129 ?_
    refine v_icmp_ne (tgt := 137) dX4_decide_130 (by decide) (fun c32 => ?_) (fun c32 => ?_)
    · replace h := b_wp_f c32 h
      refine v_sub (ls2 := [(0, bR _), (1, bI _), (2, bI _), (3, bI _), (5, bI _), (6, bI _)]) [1, 2, 3, 4, 6, 0] rfl ?_
      exact t_X4_decide_b137 h
    · replace h := b_wp_t c32 h
      refine v_iconst ⟨by decide, by decide⟩ dX4_decide_133 ?_
      refine v_goto (tgt := 138) dX4_decide_134 (by decide) ?_
      refine v_sub (ls2 := [(0, bR _), (1, bI _), (2, bI _), (3, bI _), (5, bI _), (6, bI _)]) [1, 2, 3, 4, 6, 0] rfl ?_
      exact t_X4_decide_b138 h
noncomputable def F_X4_decide_b119 (v1 : Int) (v2 : Int) (v3 : Int) (v4 : Int) (v5 : Int) (M : bM) : Option (bM) :=
  F_X4_decide_b120 v1 v2 v3 v4 v5 0 M
theorem t_X4_decide_b119 {l : Launch} {E : bE} {Q : bM → Prop} {v1 : Int} {v2 : Int} {v3 : Int} {v4 : Int} {v5 : Int} {M : bM} (h : b_wp (F_X4_decide_b119 v1 v2 v3 v4 v5 M) (Q)) : V l E xX4_decide (0, 0) 119 [(0, bR 6), (1, bI v1), (2, bI v2), (3, bI v3), (4, bI v4), (5, bI v5)] [] M (b_pV Q) := by
  unfold F_X4_decide_b119 at h
  refine v_iconst ⟨by decide, by decide⟩ dX4_decide_119 ?_
  exact t_X4_decide_b120 h
noncomputable def F_X4_decide_b99 (v1 : Int) (v2 : Int) (v3 : Int) (v4 : Int) (v5 : Int) (M : bM) : Option (bM) :=
  if v3 ≤ 0 then (F_X4_decide_b119 v1 v2 v3 v4 v5 M) else (b_bind (F_X4_actThen M) (fun x33 => b_g (12 ≤ x33 ∧ x33 < 22) (b_bind (F_X0_told_a x33 0 M) (fun x35 => if v3 < x35 then (F_X4_decide_b119 v1 v2 v3 v4 v5 M) else (F_X4_decide_b120 v1 v2 v3 v4 v5 1 M)))))
theorem t_X4_decide_b99 {l : Launch} {E : bE} {Q : bM → Prop} {v1 : Int} {v2 : Int} {v3 : Int} {v4 : Int} {v5 : Int} {M : bM} (h : b_wp (F_X4_decide_b99 v1 v2 v3 v4 v5 M) (Q)) : V l E xX4_decide (0, 0) 99 [(0, bR 6), (1, bI v1), (2, bI v2), (3, bI v3), (4, bI v4), (5, bI v5)] [] M (b_pV Q) := by
  unfold F_X4_decide_b99 at h
  refine v_iload_n (f := 3) 3 rfl dX4_decide_99 ?_
  refine v_if_le (tgt := 119) dX4_decide_100 (by decide) (fun c15 => ?_) (fun c15 => ?_)
  · replace h := b_wp_t c15 h
    exact t_X4_decide_b119 h
  · replace h := b_wp_f c15 h
    refine v_iload_n (f := 3) 3 rfl dX4_decide_103 ?_
    refine v_aload_n (f := 0) 0 rfl dX4_decide_104 ?_
    refine v_cVAp (nA := 0) (As := []) (ix := 158) (cf_X4_actThen (b_wp_b h)) rfl kd_6 rfl rfl wc_X4_actThen wm_4_158 wi_X4_actThen ws_X4_actThen wn_4 ⟨by decide, by decide, by decide⟩ rfl ⟨by decide, by decide⟩ ⟨by decide, by decide⟩ (Nat.le_of_ble_eq_true rfl) dX4_decide_105 (fun x33 h => ?_)
    obtain ⟨g34, h⟩ := b_wp_g h
    refine v_iconst ⟨by decide, by decide⟩ dX4_decide_108 ?_
    refine v_cVIp (nA := 1) (As := [bI _]) (ix := 164) (cf_X0_told_a (b_wp_b h)) rfl (kd_act0 g34) rfl rfl wc_X0_told wm_4_164 wi_X0_told ws_X0_told wn_0 ⟨by decide, by decide, by decide⟩ rfl ⟨by decide, by decide⟩ ⟨by decide, by decide⟩ (Nat.le_of_ble_eq_true rfl) dX4_decide_109 (fun x35 h => ?_)
    refine v_icmp_lt (tgt := 119) dX4_decide_112 (by decide) (fun c36 => ?_) (fun c36 => ?_)
    · replace h := b_wp_t c36 h
      exact t_X4_decide_b119 h
    · replace h := b_wp_f c36 h
      refine v_iconst ⟨by decide, by decide⟩ dX4_decide_115 ?_
      refine v_goto (tgt := 120) dX4_decide_116 (by decide) ?_
      exact t_X4_decide_b120 h
noncomputable def F_X4_decide (v1 : Int) (v2 : Int) (M : bM) : Option (bM) :=
  b_bind (b_loop (fun t => F_X4_decide_s11 v1 v2 t.1 t.2.1 t.2.2.1 t.2.2.2.1 t.2.2.2.2) (0, 0, (-1), 0, M)) (fun t => F_X4_decide_b99 v1 v2 (t.1) (t.2.1) (t.2.2.1) (t.2.2.2))
theorem t_X4_decide {l : Launch} {E : bE} {Q : bM → Prop} {v1 : Int} {v2 : Int} {M : bM} (h : b_wp (F_X4_decide v1 v2 M) (Q)) : V l E xX4_decide (0, 0) 0 [(0, bR 6), (1, bI v1), (2, bI v2)] [] M (b_pV Q) := by
  unfold F_X4_decide at h
  refine v_iconst ⟨by decide, by decide⟩ dX4_decide_0 ?_
  refine v_istore_n (g := 3) (i := 3) (ls' := [(3, bI _), (0, bR _), (1, bI _), (2, bI _)]) rfl (by decide) dX4_decide_1 rfl ?_
  refine v_iconst ⟨by decide, by decide⟩ dX4_decide_2 ?_
  refine v_istore (i := 4) (ls' := [(4, bI _), (3, bI _), (0, bR _), (1, bI _), (2, bI _)]) (by decide) dX4_decide_3 rfl ?_
  refine v_iconst ⟨by decide, by decide⟩ dX4_decide_5 ?_
  refine v_istore (i := 5) (ls' := [(5, bI _), (4, bI _), (3, bI _), (0, bR _), (1, bI _), (2, bI _)]) (by decide) dX4_decide_6 rfl ?_
  refine v_iconst ⟨by decide, by decide⟩ dX4_decide_8 ?_
  refine v_istore (i := 6) (ls' := [(6, bI _), (5, bI _), (4, bI _), (3, bI _), (0, bR _), (1, bI _), (2, bI _)]) (by decide) dX4_decide_9 rfl ?_
  refine v_sub (ls2 := [(0, bR _), (1, bI _), (2, bI _), (3, bI _), (4, bI _), (5, bI _), (6, bI _)]) [4, 5, 6, 3, 2, 1, 0] rfl ?_
  refine l_X4_decide_11 (b_wp_m (fun t h => ?_) (b_wp_b h))
  show V l E xX4_decide (0, 0) 99 [(0, bR 6), (1, bI _), (2, bI _), (3, bI _), (4, bI _), (5, bI _)] [] _ (b_pV Q)
  exact t_X4_decide_b99 h
theorem cf_X4_decide {l : Launch} {E : bE} {M : bM} {v1 : Int} {v2 : Int} {Q : bM → Prop} (h : b_wp (F_X4_decide v1 v2 M) Q) : b_C l E xX4_decide yX4_decide [bR 6, bI v1, bI v2] M (b_pV Q) := b_met (by decide) ⟨rfl, rfl⟩ (Nat.le_of_ble_eq_true rfl) (fun _ _ => t_X4_decide h)
abbrev xX4_findSpan : bX := ("BurntHall$Evidence", prog_6_method_17_code, 6, (Option.none : Option Jvm.ClassFile.FieldType), b_rm 3 0 0, 0, "findSpan")
abbrev yX4_findSpan : MethodName := ⟨"BurntHall$Evidence", "findSpan", "(I)V"⟩
theorem dX4_findSpan_0 : decode prog_6_method_17_code 0 = .ok (.iconst 0, 1) := by decide +kernel
theorem dX4_findSpan_1 : decode prog_6_method_17_code 1 = .ok (.istore_n 2, 1) := by decide +kernel
theorem dX4_findSpan_2 : decode prog_6_method_17_code 2 = .ok (.sipush 9999, 3) := by decide +kernel
theorem dX4_findSpan_5 : decode prog_6_method_17_code 5 = .ok (.istore_n 3, 1) := by decide +kernel
theorem dX4_findSpan_6 : decode prog_6_method_17_code 6 = .ok (.iconst 0, 1) := by decide +kernel
theorem dX4_findSpan_7 : decode prog_6_method_17_code 7 = .ok (.istore 4, 2) := by decide +kernel
theorem dX4_findSpan_9 : decode prog_6_method_17_code 9 = .ok (.iload 4, 2) := by decide +kernel
theorem dX4_findSpan_11 : decode prog_6_method_17_code 11 = .ok (.aload_n 0, 1) := by decide +kernel
theorem dX4_findSpan_12 : decode prog_6_method_17_code 12 = .ok (.getfield 98, 3) := by decide +kernel
theorem dX4_findSpan_15 : decode prog_6_method_17_code 15 = .ok (.if_icmp .ge 64, 3) := by decide +kernel
theorem dX4_findSpan_18 : decode prog_6_method_17_code 18 = .ok (.aload_n 0, 1) := by decide +kernel
theorem dX4_findSpan_19 : decode prog_6_method_17_code 19 = .ok (.getfield 21, 3) := by decide +kernel
theorem dX4_findSpan_22 : decode prog_6_method_17_code 22 = .ok (.iload 4, 2) := by decide +kernel
theorem dX4_findSpan_24 : decode prog_6_method_17_code 24 = .ok (.iaload, 1) := by decide +kernel
theorem dX4_findSpan_25 : decode prog_6_method_17_code 25 = .ok (.istore 5, 2) := by decide +kernel
theorem dX4_findSpan_27 : decode prog_6_method_17_code 27 = .ok (.aload_n 0, 1) := by decide +kernel
theorem dX4_findSpan_28 : decode prog_6_method_17_code 28 = .ok (.getfield 35, 3) := by decide +kernel
theorem dX4_findSpan_31 : decode prog_6_method_17_code 31 = .ok (.iload 5, 2) := by decide +kernel
theorem dX4_findSpan_33 : decode prog_6_method_17_code 33 = .ok (.aload_n 0, 1) := by decide +kernel
theorem dX4_findSpan_34 : decode prog_6_method_17_code 34 = .ok (.getfield 51, 3) := by decide +kernel
theorem dX4_findSpan_37 : decode prog_6_method_17_code 37 = .ok (.invokevirtual 170, 3) := by decide +kernel
theorem dX4_findSpan_40 : decode prog_6_method_17_code 40 = .ok (.ifCond .le 33, 3) := by decide +kernel
theorem dX4_findSpan_43 : decode prog_6_method_17_code 43 = .ok (.iload_n 2, 1) := by decide +kernel
theorem dX4_findSpan_44 : decode prog_6_method_17_code 44 = .ok (.aload_n 0, 1) := by decide +kernel
theorem dX4_findSpan_45 : decode prog_6_method_17_code 45 = .ok (.getfield 35, 3) := by decide +kernel
theorem dX4_findSpan_48 : decode prog_6_method_17_code 48 = .ok (.getfield 117, 3) := by decide +kernel
theorem dX4_findSpan_51 : decode prog_6_method_17_code 51 = .ok (.iload 5, 2) := by decide +kernel
theorem dX4_findSpan_53 : decode prog_6_method_17_code 53 = .ok (.iaload, 1) := by decide +kernel
theorem dX4_findSpan_54 : decode prog_6_method_17_code 54 = .ok (.invokestatic 179, 3) := by decide +kernel
theorem dX4_findSpan_57 : decode prog_6_method_17_code 57 = .ok (.istore_n 2, 1) := by decide +kernel
theorem dX4_findSpan_58 : decode prog_6_method_17_code 58 = .ok (.iload_n 3, 1) := by decide +kernel
theorem dX4_findSpan_59 : decode prog_6_method_17_code 59 = .ok (.aload_n 0, 1) := by decide +kernel
theorem dX4_findSpan_60 : decode prog_6_method_17_code 60 = .ok (.getfield 35, 3) := by decide +kernel
theorem dX4_findSpan_63 : decode prog_6_method_17_code 63 = .ok (.getfield 120, 3) := by decide +kernel
theorem dX4_findSpan_66 : decode prog_6_method_17_code 66 = .ok (.iload 5, 2) := by decide +kernel
theorem dX4_findSpan_68 : decode prog_6_method_17_code 68 = .ok (.iaload, 1) := by decide +kernel
theorem dX4_findSpan_69 : decode prog_6_method_17_code 69 = .ok (.invokestatic 93, 3) := by decide +kernel
theorem dX4_findSpan_72 : decode prog_6_method_17_code 72 = .ok (.istore_n 3, 1) := by decide +kernel
theorem dX4_findSpan_73 : decode prog_6_method_17_code 73 = .ok (.iinc 4 1, 3) := by decide +kernel
theorem dX4_findSpan_76 : decode prog_6_method_17_code 76 = .ok (.goto (-67), 3) := by decide +kernel
theorem dX4_findSpan_79 : decode prog_6_method_17_code 79 = .ok (.iload_n 2, 1) := by decide +kernel
theorem dX4_findSpan_80 : decode prog_6_method_17_code 80 = .ok (.iload_n 3, 1) := by decide +kernel
theorem dX4_findSpan_81 : decode prog_6_method_17_code 81 = .ok (.if_icmp .le 7, 3) := by decide +kernel
theorem dX4_findSpan_84 : decode prog_6_method_17_code 84 = .ok (.iconst 1, 1) := by decide +kernel
theorem dX4_findSpan_85 : decode prog_6_method_17_code 85 = .ok (.goto 4, 3) := by decide +kernel
theorem dX4_findSpan_88 : decode prog_6_method_17_code 88 = .ok (.iconst 0, 1) := by decide +kernel
theorem dX4_findSpan_89 : decode prog_6_method_17_code 89 = .ok (.istore 4, 2) := by decide +kernel
theorem dX4_findSpan_91 : decode prog_6_method_17_code 91 = .ok (.aload_n 0, 1) := by decide +kernel
theorem dX4_findSpan_92 : decode prog_6_method_17_code 92 = .ok (.getfield 11, 3) := by decide +kernel
theorem dX4_findSpan_95 : decode prog_6_method_17_code 95 = .ok (.iload_n 1, 1) := by decide +kernel
theorem dX4_findSpan_96 : decode prog_6_method_17_code 96 = .ok (.iconst 3, 1) := by decide +kernel
theorem dX4_findSpan_97 : decode prog_6_method_17_code 97 = .ok (.iadd, 1) := by decide +kernel
theorem dX4_findSpan_98 : decode prog_6_method_17_code 98 = .ok (.iload 4, 2) := by decide +kernel
theorem dX4_findSpan_100 : decode prog_6_method_17_code 100 = .ok (.ifCond .eq 7, 3) := by decide +kernel
theorem dX4_findSpan_103 : decode prog_6_method_17_code 103 = .ok (.iconst 0, 1) := by decide +kernel
theorem dX4_findSpan_104 : decode prog_6_method_17_code 104 = .ok (.goto 4, 3) := by decide +kernel
theorem dX4_findSpan_107 : decode prog_6_method_17_code 107 = .ok (.iload_n 2, 1) := by decide +kernel
theorem dX4_findSpan_108 : decode prog_6_method_17_code 108 = .ok (.iastore, 1) := by decide +kernel
theorem dX4_findSpan_109 : decode prog_6_method_17_code 109 = .ok (.aload_n 0, 1) := by decide +kernel
theorem dX4_findSpan_110 : decode prog_6_method_17_code 110 = .ok (.getfield 11, 3) := by decide +kernel
theorem dX4_findSpan_113 : decode prog_6_method_17_code 113 = .ok (.iload_n 1, 1) := by decide +kernel
theorem dX4_findSpan_114 : decode prog_6_method_17_code 114 = .ok (.iconst 4, 1) := by decide +kernel
theorem dX4_findSpan_115 : decode prog_6_method_17_code 115 = .ok (.iadd, 1) := by decide +kernel
theorem dX4_findSpan_116 : decode prog_6_method_17_code 116 = .ok (.iload 4, 2) := by decide +kernel
theorem dX4_findSpan_118 : decode prog_6_method_17_code 118 = .ok (.ifCond .eq 9, 3) := by decide +kernel
theorem dX4_findSpan_121 : decode prog_6_method_17_code 121 = .ok (.sipush 9999, 3) := by decide +kernel
theorem dX4_findSpan_124 : decode prog_6_method_17_code 124 = .ok (.goto 4, 3) := by decide +kernel
theorem dX4_findSpan_127 : decode prog_6_method_17_code 127 = .ok (.iload_n 3, 1) := by decide +kernel
theorem dX4_findSpan_128 : decode prog_6_method_17_code 128 = .ok (.iastore, 1) := by decide +kernel
theorem dX4_findSpan_129 : decode prog_6_method_17_code 129 = .ok (.iload 4, 2) := by decide +kernel
theorem dX4_findSpan_131 : decode prog_6_method_17_code 131 = .ok (.ifCond .eq 17, 3) := by decide +kernel
theorem dX4_findSpan_134 : decode prog_6_method_17_code 134 = .ok (.aload_n 0, 1) := by decide +kernel
theorem dX4_findSpan_135 : decode prog_6_method_17_code 135 = .ok (.getfield 11, 3) := by decide +kernel
theorem dX4_findSpan_138 : decode prog_6_method_17_code 138 = .ok (.iload_n 1, 1) := by decide +kernel
theorem dX4_findSpan_139 : decode prog_6_method_17_code 139 = .ok (.bipush 9, 2) := by decide +kernel
theorem dX4_findSpan_141 : decode prog_6_method_17_code 141 = .ok (.iadd, 1) := by decide +kernel
theorem dX4_findSpan_142 : decode prog_6_method_17_code 142 = .ok (.dup2, 1) := by decide +kernel
theorem dX4_findSpan_143 : decode prog_6_method_17_code 143 = .ok (.iaload, 1) := by decide +kernel
theorem dX4_findSpan_144 : decode prog_6_method_17_code 144 = .ok (.bipush 8, 2) := by decide +kernel
theorem dX4_findSpan_146 : decode prog_6_method_17_code 146 = .ok (.ior, 1) := by decide +kernel
theorem dX4_findSpan_147 : decode prog_6_method_17_code 147 = .ok (.iastore, 1) := by decide +kernel
theorem dX4_findSpan_148 : decode prog_6_method_17_code 148 = .ok (.return_, 1) := by decide +kernel
