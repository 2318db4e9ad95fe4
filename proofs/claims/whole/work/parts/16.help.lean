theorem c_X12_in {l : Launch} {E : bE} {M : bM} {v lo hi : Int}  : b_C l E xX12_in yX12_in [bI v, bI lo, bI hi] M (fun r M' => M' = M ∧ ∃ b, r = some (bI b) ∧ b_b (lo ≤ v ∧ v ≤ hi) b) := by
  refine b_met (by decide) ⟨rfl, rfl⟩ (Nat.le_of_ble_eq_true rfl) (fun hA hRg => ?_)
  refine v_iload_n (f := 0) 0 rfl dX12_in_0 ?_
  refine v_iload_n (f := 1) 1 rfl dX12_in_1 ?_
  refine v_icmp_lt (tgt := 14) dX12_in_2 (by decide) (fun h2 => ?_) (fun h2 => ?_)
  · refine v_iconst ⟨by decide, by decide⟩ dX12_in_14 ?_
    refine v_zreturn rfl (by first | exact Or.inl rfl | exact Or.inr rfl | omega | (split <;> simp)) dX12_in_15 ⟨by decide, by decide⟩ ?_
    exact ⟨rfl, _, rfl, by unfold b_b; omega⟩
  · refine v_iload_n (f := 0) 0 rfl dX12_in_5 ?_
    refine v_iload_n (f := 2) 2 rfl dX12_in_6 ?_
    refine v_icmp_gt (tgt := 14) dX12_in_7 (by decide) (fun h7 => ?_) (fun h7 => ?_)
    · refine v_iconst ⟨by decide, by decide⟩ dX12_in_14 ?_
      refine v_zreturn rfl (by first | exact Or.inl rfl | exact Or.inr rfl | omega | (split <;> simp)) dX12_in_15 ⟨by decide, by decide⟩ ?_
      exact ⟨rfl, _, rfl, by unfold b_b; omega⟩
    · refine v_iconst ⟨by decide, by decide⟩ dX12_in_10 ?_
      refine v_goto (tgt := 15) dX12_in_11 (by decide) ?_
      refine v_zreturn rfl (by first | exact Or.inl rfl | exact Or.inr rfl | omega | (split <;> simp)) dX12_in_15 ⟨by decide, by decide⟩ ?_
      exact ⟨rfl, _, rfl, by unfold b_b; omega⟩
theorem c_X12_isDay {l : Launch} {E : bE} {M : bM} {d : Int}  : b_C l E xX12_isDay yX12_isDay [bI d] M (fun r M' => M' = M ∧ ∃ b, r = some (bI b) ∧ b_b (0 ≤ d ∧ d ≤ 9999) b) := by
  refine b_met (by decide) ⟨rfl, rfl⟩ (Nat.le_of_ble_eq_true rfl) (fun hA hRg => ?_)
  refine v_iload_n (f := 0) 0 rfl dX12_isDay_0 ?_
  refine v_iconst ⟨by decide, by decide⟩ dX12_isDay_1 ?_
  refine v_sipush ⟨by decide, by decide⟩ (by decide) dX12_isDay_2 ?_
  refine v_callS (nA := 3) (Y := xX12_in) (y := yX12_in) (As := [bI _, bI _, bI _]) (ix := 279) (b_met (by decide) ⟨rfl, rfl⟩ (Nat.le_of_ble_eq_true rfl) (fun _ _ => ?_)) rfl wc_X12_in wm_12_279 wi_X12_in wn_12 ⟨by decide, by decide, by decide⟩ rfl ⟨by decide, by decide⟩ ⟨by decide, by decide⟩ (Nat.le_of_ble_eq_true rfl) dX12_isDay_5 (fun r M' h => h)
  refine v_iload_n (f := 0) 0 rfl dX12_in_0 ?_
  refine v_iload_n (f := 1) 1 rfl dX12_in_1 ?_
  refine v_icmp_lt (tgt := 14) dX12_in_2 (by decide) (fun h2_1 => ?_) (fun h2_1 => ?_)
  · refine v_iconst ⟨by decide, by decide⟩ dX12_in_14 ?_
    refine v_zreturn rfl (by first | exact Or.inl rfl | exact Or.inr rfl | omega | (split <;> simp)) dX12_in_15 ⟨by decide, by decide⟩ ?_
    dsimp only [Option.toList, List.cons_append, List.nil_append]
    refine v_zreturn rfl (by first | exact Or.inl rfl | exact Or.inr rfl | omega | (split <;> simp)) dX12_isDay_8 ⟨by decide, by decide⟩ ?_
    exact ⟨rfl, _, rfl, by unfold b_b; omega⟩
  · refine v_iload_n (f := 0) 0 rfl dX12_in_5 ?_
    refine v_iload_n (f := 2) 2 rfl dX12_in_6 ?_
    refine v_icmp_gt (tgt := 14) dX12_in_7 (by decide) (fun h7_1 => ?_) (fun h7_1 => ?_)
    · refine v_iconst ⟨by decide, by decide⟩ dX12_in_14 ?_
      refine v_zreturn rfl (by first | exact Or.inl rfl | exact Or.inr rfl | omega | (split <;> simp)) dX12_in_15 ⟨by decide, by decide⟩ ?_
      dsimp only [Option.toList, List.cons_append, List.nil_append]
      refine v_zreturn rfl (by first | exact Or.inl rfl | exact Or.inr rfl | omega | (split <;> simp)) dX12_isDay_8 ⟨by decide, by decide⟩ ?_
      exact ⟨rfl, _, rfl, by unfold b_b; omega⟩
    · refine v_iconst ⟨by decide, by decide⟩ dX12_in_10 ?_
      refine v_goto (tgt := 15) dX12_in_11 (by decide) ?_
      refine v_zreturn rfl (by first | exact Or.inl rfl | exact Or.inr rfl | omega | (split <;> simp)) dX12_in_15 ⟨by decide, by decide⟩ ?_
      dsimp only [Option.toList, List.cons_append, List.nil_append]
      refine v_zreturn rfl (by first | exact Or.inl rfl | exact Or.inr rfl | omega | (split <;> simp)) dX12_isDay_8 ⟨by decide, by decide⟩ ?_
      exact ⟨rfl, _, rfl, by unfold b_b; omega⟩
abbrev xX12_isFeet : bX := ("BurntHallModel", prog_14_method_30_code, 1, (Option.some Jvm.ClassFile.FieldType.boolean), b_rm 2 0 0, 0, "isFeet")
abbrev yX12_isFeet : MethodName := ⟨"BurntHallModel", "isFeet", "(I)Z"⟩
theorem dX12_isFeet_0 : decode prog_14_method_30_code 0 = .ok (.iload_n 0, 1) := by decide +kernel
theorem dX12_isFeet_1 : decode prog_14_method_30_code 1 = .ok (.iconst 1, 1) := by decide +kernel
theorem dX12_isFeet_2 : decode prog_14_method_30_code 2 = .ok (.ldc_w 377, 3) := by decide +kernel
theorem dX12_isFeet_5 : decode prog_14_method_30_code 5 = .ok (.invokestatic 279, 3) := by decide +kernel
theorem dX12_isFeet_8 : decode prog_14_method_30_code 8 = .ok (.ireturn, 1) := by decide +kernel
theorem c_X12_isFeet {l : Launch} {E : bE} {M : bM} {d : Int}  : b_C l E xX12_isFeet yX12_isFeet [bI d] M (fun r M' => M' = M ∧ ∃ b, r = some (bI b) ∧ b_b (1 ≤ d ∧ d ≤ 999999) b) := by
  refine b_met (by decide) ⟨rfl, rfl⟩ (Nat.le_of_ble_eq_true rfl) (fun hA hRg => ?_)
  refine v_iload_n (f := 0) 0 rfl dX12_isFeet_0 ?_
  refine v_iconst ⟨by decide, by decide⟩ dX12_isFeet_1 ?_
  refine v_ldcw (n := 999999) ⟨by decide, by decide⟩ wk_12_377 dX12_isFeet_2 ?_
  refine v_callS (nA := 3) (Y := xX12_in) (y := yX12_in) (As := [bI _, bI _, bI _]) (ix := 279) (b_met (by decide) ⟨rfl, rfl⟩ (Nat.le_of_ble_eq_true rfl) (fun _ _ => ?_)) rfl wc_X12_in wm_12_279 wi_X12_in wn_12 ⟨by decide, by decide, by decide⟩ rfl ⟨by decide, by decide⟩ ⟨by decide, by decide⟩ (Nat.le_of_ble_eq_true rfl) dX12_isFeet_5 (fun r M' h => h)
  refine v_iload_n (f := 0) 0 rfl dX12_in_0 ?_
  refine v_iload_n (f := 1) 1 rfl dX12_in_1 ?_
  refine v_icmp_lt (tgt := 14) dX12_in_2 (by decide) (fun h2_1 => ?_) (fun h2_1 => ?_)
  · refine v_iconst ⟨by decide, by decide⟩ dX12_in_14 ?_
    refine v_zreturn rfl (by first | exact Or.inl rfl | exact Or.inr rfl | omega | (split <;> simp)) dX12_in_15 ⟨by decide, by decide⟩ ?_
    dsimp only [Option.toList, List.cons_append, List.nil_append]
    refine v_zreturn rfl (by first | exact Or.inl rfl | exact Or.inr rfl | omega | (split <;> simp)) dX12_isFeet_8 ⟨by decide, by decide⟩ ?_
    exact ⟨rfl, _, rfl, by unfold b_b; omega⟩
  · refine v_iload_n (f := 0) 0 rfl dX12_in_5 ?_
    refine v_iload_n (f := 2) 2 rfl dX12_in_6 ?_
    refine v_icmp_gt (tgt := 14) dX12_in_7 (by decide) (fun h7_1 => ?_) (fun h7_1 => ?_)
    · refine v_iconst ⟨by decide, by decide⟩ dX12_in_14 ?_
      refine v_zreturn rfl (by first | exact Or.inl rfl | exact Or.inr rfl | omega | (split <;> simp)) dX12_in_15 ⟨by decide, by decide⟩ ?_
      dsimp only [Option.toList, List.cons_append, List.nil_append]
      refine v_zreturn rfl (by first | exact Or.inl rfl | exact Or.inr rfl | omega | (split <;> simp)) dX12_isFeet_8 ⟨by decide, by decide⟩ ?_
      exact ⟨rfl, _, rfl, by unfold b_b; omega⟩
    · refine v_iconst ⟨by decide, by decide⟩ dX12_in_10 ?_
      refine v_goto (tgt := 15) dX12_in_11 (by decide) ?_
      refine v_zreturn rfl (by first | exact Or.inl rfl | exact Or.inr rfl | omega | (split <;> simp)) dX12_in_15 ⟨by decide, by decide⟩ ?_
      dsimp only [Option.toList, List.cons_append, List.nil_append]
      refine v_zreturn rfl (by first | exact Or.inl rfl | exact Or.inr rfl | omega | (split <;> simp)) dX12_isFeet_8 ⟨by decide, by decide⟩ ?_
      exact ⟨rfl, _, rfl, by unfold b_b; omega⟩
theorem c_X12_isPerson {l : Launch} {E : bE} {M : bM} {p : Int} (h : 0 ≤ M 11 12 ∧ M 11 12 ≤ 80) : b_C l E xX12_isPerson yX12_isPerson [bR 11, bI p] M (fun r M' => M' = M ∧ ∃ b, r = some (bI b) ∧ b_b (0 ≤ p ∧ p < M 11 12) b) := by
  refine b_met (by decide) ⟨rfl, rfl⟩ (Nat.le_of_ble_eq_true rfl) (fun hA hRg => ?_)
  refine v_iload_n (f := 1) 1 rfl dX12_isPerson_0 ?_
  refine v_iconst ⟨by decide, by decide⟩ dX12_isPerson_1 ?_
  refine v_aload_n (f := 0) 0 rfl dX12_isPerson_2 ?_
  refine v_getI (kf := 12) (kz := 12) rfl kd_11 rfl ⟨by decide, by decide⟩ rfl wf_12_350 dX12_isPerson_3 ?_
  refine v_iconst ⟨by decide, by decide⟩ dX12_isPerson_6 ?_
  refine v_isubN (by unfold b_r32; first | omega | (simp (disch := decide) only [b_upc, b_upi, b_ups]; omega)) dX12_isPerson_7 ?_
  refine v_callS (nA := 3) (Y := xX12_in) (y := yX12_in) (As := [bI _, bI _, bI _]) (ix := 279) (b_met (by decide) ⟨rfl, rfl⟩ (Nat.le_of_ble_eq_true rfl) (fun _ _ => ?_)) rfl wc_X12_in wm_12_279 wi_X12_in wn_12 ⟨by decide, by decide, by decide⟩ rfl ⟨by decide, by decide⟩ ⟨by decide, by decide⟩ (Nat.le_of_ble_eq_true rfl) dX12_isPerson_8 (fun r M' h => h)
  refine v_iload_n (f := 0) 0 rfl dX12_in_0 ?_
  refine v_iload_n (f := 1) 1 rfl dX12_in_1 ?_
  refine v_icmp_lt (tgt := 14) dX12_in_2 (by decide) (fun h2_1 => ?_) (fun h2_1 => ?_)
  · refine v_iconst ⟨by decide, by decide⟩ dX12_in_14 ?_
    refine v_zreturn rfl (by first | exact Or.inl rfl | exact Or.inr rfl | omega | (split <;> simp)) dX12_in_15 ⟨by decide, by decide⟩ ?_
    dsimp only [Option.toList, List.cons_append, List.nil_append]
    refine v_zreturn rfl (by first | exact Or.inl rfl | exact Or.inr rfl | omega | (split <;> simp)) dX12_isPerson_11 ⟨by decide, by decide⟩ ?_
    exact ⟨rfl, _, rfl, by unfold b_b; omega⟩
  · refine v_iload_n (f := 0) 0 rfl dX12_in_5 ?_
    refine v_iload_n (f := 2) 2 rfl dX12_in_6 ?_
    refine v_icmp_gt (tgt := 14) dX12_in_7 (by decide) (fun h7_1 => ?_) (fun h7_1 => ?_)
    · refine v_iconst ⟨by decide, by decide⟩ dX12_in_14 ?_
      refine v_zreturn rfl (by first | exact Or.inl rfl | exact Or.inr rfl | omega | (split <;> simp)) dX12_in_15 ⟨by decide, by decide⟩ ?_
      dsimp only [Option.toList, List.cons_append, List.nil_append]
      refine v_zreturn rfl (by first | exact Or.inl rfl | exact Or.inr rfl | omega | (split <;> simp)) dX12_isPerson_11 ⟨by decide, by decide⟩ ?_
      exact ⟨rfl, _, rfl, by unfold b_b; omega⟩
    · refine v_iconst ⟨by decide, by decide⟩ dX12_in_10 ?_
      refine v_goto (tgt := 15) dX12_in_11 (by decide) ?_
      refine v_zreturn rfl (by first | exact Or.inl rfl | exact Or.inr rfl | omega | (split <;> simp)) dX12_in_15 ⟨by decide, by decide⟩ ?_
      dsimp only [Option.toList, List.cons_append, List.nil_append]
      refine v_zreturn rfl (by first | exact Or.inl rfl | exact Or.inr rfl | omega | (split <;> simp)) dX12_isPerson_11 ⟨by decide, by decide⟩ ?_
      exact ⟨rfl, _, rfl, by unfold b_b; omega⟩
abbrev xX12_isLot : bX := ("BurntHallModel", prog_14_method_29_code, 2, (Option.some Jvm.ClassFile.FieldType.boolean), b_rm 2 0 0, 0, "isLot")
abbrev yX12_isLot : MethodName := ⟨"BurntHallModel", "isLot", "(I)Z"⟩
theorem dX12_isLot_0 : decode prog_14_method_29_code 0 = .ok (.iload_n 1, 1) := by decide +kernel
theorem dX12_isLot_1 : decode prog_14_method_29_code 1 = .ok (.iconst 0, 1) := by decide +kernel
theorem dX12_isLot_2 : decode prog_14_method_29_code 2 = .ok (.aload_n 0, 1) := by decide +kernel
theorem dX12_isLot_3 : decode prog_14_method_29_code 3 = .ok (.getfield 374, 3) := by decide +kernel
theorem dX12_isLot_6 : decode prog_14_method_29_code 6 = .ok (.iconst 1, 1) := by decide +kernel
theorem dX12_isLot_7 : decode prog_14_method_29_code 7 = .ok (.isub, 1) := by decide +kernel
theorem dX12_isLot_8 : decode prog_14_method_29_code 8 = .ok (.invokestatic 279, 3) := by decide +kernel
theorem dX12_isLot_11 : decode prog_14_method_29_code 11 = .ok (.ireturn, 1) := by decide +kernel
theorem c_X12_isLot {l : Launch} {E : bE} {M : bM} {p : Int} (h : 0 ≤ M 11 20 ∧ M 11 20 ≤ 60) : b_C l E xX12_isLot yX12_isLot [bR 11, bI p] M (fun r M' => M' = M ∧ ∃ b, r = some (bI b) ∧ b_b (0 ≤ p ∧ p < M 11 20) b) := by
  refine b_met (by decide) ⟨rfl, rfl⟩ (Nat.le_of_ble_eq_true rfl) (fun hA hRg => ?_)
  refine v_iload_n (f := 1) 1 rfl dX12_isLot_0 ?_
  refine v_iconst ⟨by decide, by decide⟩ dX12_isLot_1 ?_
  refine v_aload_n (f := 0) 0 rfl dX12_isLot_2 ?_
  refine v_getI (kf := 20) (kz := 20) rfl kd_11 rfl ⟨by decide, by decide⟩ rfl wf_12_374 dX12_isLot_3 ?_
  refine v_iconst ⟨by decide, by decide⟩ dX12_isLot_6 ?_
  refine v_isubN (by unfold b_r32; first | omega | (simp (disch := decide) only [b_upc, b_upi, b_ups]; omega)) dX12_isLot_7 ?_
  refine v_callS (nA := 3) (Y := xX12_in) (y := yX12_in) (As := [bI _, bI _, bI _]) (ix := 279) (b_met (by decide) ⟨rfl, rfl⟩ (Nat.le_of_ble_eq_true rfl) (fun _ _ => ?_)) rfl wc_X12_in wm_12_279 wi_X12_in wn_12 ⟨by decide, by decide, by decide⟩ rfl ⟨by decide, by decide⟩ ⟨by decide, by decide⟩ (Nat.le_of_ble_eq_true rfl) dX12_isLot_8 (fun r M' h => h)
  refine v_iload_n (f := 0) 0 rfl dX12_in_0 ?_
  refine v_iload_n (f := 1) 1 rfl dX12_in_1 ?_
  refine v_icmp_lt (tgt := 14) dX12_in_2 (by decide) (fun h2_1 => ?_) (fun h2_1 => ?_)
  · refine v_iconst ⟨by decide, by decide⟩ dX12_in_14 ?_
    refine v_zreturn rfl (by first | exact Or.inl rfl | exact Or.inr rfl | omega | (split <;> simp)) dX12_in_15 ⟨by decide, by decide⟩ ?_
    dsimp only [Option.toList, List.cons_append, List.nil_append]
    refine v_zreturn rfl (by first | exact Or.inl rfl | exact Or.inr rfl | omega | (split <;> simp)) dX12_isLot_11 ⟨by decide, by decide⟩ ?_
    exact ⟨rfl, _, rfl, by unfold b_b; omega⟩
  · refine v_iload_n (f := 0) 0 rfl dX12_in_5 ?_
    refine v_iload_n (f := 2) 2 rfl dX12_in_6 ?_
    refine v_icmp_gt (tgt := 14) dX12_in_7 (by decide) (fun h7_1 => ?_) (fun h7_1 => ?_)
    · refine v_iconst ⟨by decide, by decide⟩ dX12_in_14 ?_
      refine v_zreturn rfl (by first | exact Or.inl rfl | exact Or.inr rfl | omega | (split <;> simp)) dX12_in_15 ⟨by decide, by decide⟩ ?_
      dsimp only [Option.toList, List.cons_append, List.nil_append]
      refine v_zreturn rfl (by first | exact Or.inl rfl | exact Or.inr rfl | omega | (split <;> simp)) dX12_isLot_11 ⟨by decide, by decide⟩ ?_
      exact ⟨rfl, _, rfl, by unfold b_b; omega⟩
    · refine v_iconst ⟨by decide, by decide⟩ dX12_in_10 ?_
      refine v_goto (tgt := 15) dX12_in_11 (by decide) ?_
      refine v_zreturn rfl (by first | exact Or.inl rfl | exact Or.inr rfl | omega | (split <;> simp)) dX12_in_15 ⟨by decide, by decide⟩ ?_
      dsimp only [Option.toList, List.cons_append, List.nil_append]
      refine v_zreturn rfl (by first | exact Or.inl rfl | exact Or.inr rfl | omega | (split <;> simp)) dX12_isLot_11 ⟨by decide, by decide⟩ ?_
      exact ⟨rfl, _, rfl, by unfold b_b; omega⟩
abbrev xX12_isPaper : bX := ("BurntHallModel", prog_14_method_74_code, 2, (Option.some Jvm.ClassFile.FieldType.boolean), b_rm 2 0 0, 0, "isPaper")
abbrev yX12_isPaper : MethodName := ⟨"BurntHallModel", "isPaper", "(I)Z"⟩
theorem dX12_isPaper_0 : decode prog_14_method_74_code 0 = .ok (.iload_n 1, 1) := by decide +kernel
theorem dX12_isPaper_1 : decode prog_14_method_74_code 1 = .ok (.iconst 0, 1) := by decide +kernel
theorem dX12_isPaper_2 : decode prog_14_method_74_code 2 = .ok (.aload_n 0, 1) := by decide +kernel
theorem dX12_isPaper_3 : decode prog_14_method_74_code 3 = .ok (.getfield 502, 3) := by decide +kernel
theorem dX12_isPaper_6 : decode prog_14_method_74_code 6 = .ok (.iconst 1, 1) := by decide +kernel
theorem dX12_isPaper_7 : decode prog_14_method_74_code 7 = .ok (.isub, 1) := by decide +kernel
theorem dX12_isPaper_8 : decode prog_14_method_74_code 8 = .ok (.invokestatic 279, 3) := by decide +kernel
theorem dX12_isPaper_11 : decode prog_14_method_74_code 11 = .ok (.ireturn, 1) := by decide +kernel
theorem c_X12_isPaper {l : Launch} {E : bE} {M : bM} {p : Int} (h : 0 ≤ M 11 53 ∧ M 11 53 ≤ 120) : b_C l E xX12_isPaper yX12_isPaper [bR 11, bI p] M (fun r M' => M' = M ∧ ∃ b, r = some (bI b) ∧ b_b (0 ≤ p ∧ p < M 11 53) b) := by
  refine b_met (by decide) ⟨rfl, rfl⟩ (Nat.le_of_ble_eq_true rfl) (fun hA hRg => ?_)
  refine v_iload_n (f := 1) 1 rfl dX12_isPaper_0 ?_
  refine v_iconst ⟨by decide, by decide⟩ dX12_isPaper_1 ?_
  refine v_aload_n (f := 0) 0 rfl dX12_isPaper_2 ?_
  refine v_getI (kf := 53) (kz := 53) rfl kd_11 rfl ⟨by decide, by decide⟩ rfl wf_12_502 dX12_isPaper_3 ?_
  refine v_iconst ⟨by decide, by decide⟩ dX12_isPaper_6 ?_
  refine v_isubN (by unfold b_r32; first | omega | (simp (disch := decide) only [b_upc, b_upi, b_ups]; omega)) dX12_isPaper_7 ?_
  refine v_callS (nA := 3) (Y := xX12_in) (y := yX12_in) (As := [bI _, bI _, bI _]) (ix := 279) (b_met (by decide) ⟨rfl, rfl⟩ (Nat.le_of_ble_eq_true rfl) (fun _ _ => ?_)) rfl wc_X12_in wm_12_279 wi_X12_in wn_12 ⟨by decide, by decide, by decide⟩ rfl ⟨by decide, by decide⟩ ⟨by decide, by decide⟩ (Nat.le_of_ble_eq_true rfl) dX12_isPaper_8 (fun r M' h => h)
  refine v_iload_n (f := 0) 0 rfl dX12_in_0 ?_
  refine v_iload_n (f := 1) 1 rfl dX12_in_1 ?_
  refine v_icmp_lt (tgt := 14) dX12_in_2 (by decide) (fun h2_1 => ?_) (fun h2_1 => ?_)
  · refine v_iconst ⟨by decide, by decide⟩ dX12_in_14 ?_
    refine v_zreturn rfl (by first | exact Or.inl rfl | exact Or.inr rfl | omega | (split <;> simp)) dX12_in_15 ⟨by decide, by decide⟩ ?_
    dsimp only [Option.toList, List.cons_append, List.nil_append]
    refine v_zreturn rfl (by first | exact Or.inl rfl | exact Or.inr rfl | omega | (split <;> simp)) dX12_isPaper_11 ⟨by decide, by decide⟩ ?_
    exact ⟨rfl, _, rfl, by unfold b_b; omega⟩
  · refine v_iload_n (f := 0) 0 rfl dX12_in_5 ?_
    refine v_iload_n (f := 2) 2 rfl dX12_in_6 ?_
    refine v_icmp_gt (tgt := 14) dX12_in_7 (by decide) (fun h7_1 => ?_) (fun h7_1 => ?_)
    · refine v_iconst ⟨by decide, by decide⟩ dX12_in_14 ?_
      refine v_zreturn rfl (by first | exact Or.inl rfl | exact Or.inr rfl | omega | (split <;> simp)) dX12_in_15 ⟨by decide, by decide⟩ ?_
      dsimp only [Option.toList, List.cons_append, List.nil_append]
      refine v_zreturn rfl (by first | exact Or.inl rfl | exact Or.inr rfl | omega | (split <;> simp)) dX12_isPaper_11 ⟨by decide, by decide⟩ ?_
      exact ⟨rfl, _, rfl, by unfold b_b; omega⟩
    · refine v_iconst ⟨by decide, by decide⟩ dX12_in_10 ?_
      refine v_goto (tgt := 15) dX12_in_11 (by decide) ?_
      refine v_zreturn rfl (by first | exact Or.inl rfl | exact Or.inr rfl | omega | (split <;> simp)) dX12_in_15 ⟨by decide, by decide⟩ ?_
      dsimp only [Option.toList, List.cons_append, List.nil_append]
      refine v_zreturn rfl (by first | exact Or.inl rfl | exact Or.inr rfl | omega | (split <;> simp)) dX12_isPaper_11 ⟨by decide, by decide⟩ ?_
      exact ⟨rfl, _, rfl, by unfold b_b; omega⟩
abbrev xX12_isMortgage : bX := ("BurntHallModel", prog_14_method_109_code, 2, (Option.some Jvm.ClassFile.FieldType.boolean), b_rm 2 0 0, 0, "isMortgage")
abbrev yX12_isMortgage : MethodName := ⟨"BurntHallModel", "isMortgage", "(I)Z"⟩
theorem dX12_isMortgage_0 : decode prog_14_method_109_code 0 = .ok (.iload_n 1, 1) := by decide +kernel
theorem dX12_isMortgage_1 : decode prog_14_method_109_code 1 = .ok (.iconst 0, 1) := by decide +kernel
theorem dX12_isMortgage_2 : decode prog_14_method_109_code 2 = .ok (.aload_n 0, 1) := by decide +kernel
theorem dX12_isMortgage_3 : decode prog_14_method_109_code 3 = .ok (.getfield 623, 3) := by decide +kernel
theorem dX12_isMortgage_6 : decode prog_14_method_109_code 6 = .ok (.iconst 1, 1) := by decide +kernel
theorem dX12_isMortgage_7 : decode prog_14_method_109_code 7 = .ok (.isub, 1) := by decide +kernel
theorem dX12_isMortgage_8 : decode prog_14_method_109_code 8 = .ok (.invokestatic 279, 3) := by decide +kernel
theorem dX12_isMortgage_11 : decode prog_14_method_109_code 11 = .ok (.ireturn, 1) := by decide +kernel
theorem c_X12_isMortgage {l : Launch} {E : bE} {M : bM} {p : Int} (h : 0 ≤ M 11 99 ∧ M 11 99 ≤ 40) : b_C l E xX12_isMortgage yX12_isMortgage [bR 11, bI p] M (fun r M' => M' = M ∧ ∃ b, r = some (bI b) ∧ b_b (0 ≤ p ∧ p < M 11 99) b) := by
  refine b_met (by decide) ⟨rfl, rfl⟩ (Nat.le_of_ble_eq_true rfl) (fun hA hRg => ?_)
  refine v_iload_n (f := 1) 1 rfl dX12_isMortgage_0 ?_
  refine v_iconst ⟨by decide, by decide⟩ dX12_isMortgage_1 ?_
  refine v_aload_n (f := 0) 0 rfl dX12_isMortgage_2 ?_
  refine v_getI (kf := 99) (kz := 99) rfl kd_11 rfl ⟨by decide, by decide⟩ rfl wf_12_623 dX12_isMortgage_3 ?_
  refine v_iconst ⟨by decide, by decide⟩ dX12_isMortgage_6 ?_
  refine v_isubN (by unfold b_r32; first | omega | (simp (disch := decide) only [b_upc, b_upi, b_ups]; omega)) dX12_isMortgage_7 ?_
  refine v_callS (nA := 3) (Y := xX12_in) (y := yX12_in) (As := [bI _, bI _, bI _]) (ix := 279) (b_met (by decide) ⟨rfl, rfl⟩ (Nat.le_of_ble_eq_true rfl) (fun _ _ => ?_)) rfl wc_X12_in wm_12_279 wi_X12_in wn_12 ⟨by decide, by decide, by decide⟩ rfl ⟨by decide, by decide⟩ ⟨by decide, by decide⟩ (Nat.le_of_ble_eq_true rfl) dX12_isMortgage_8 (fun r M' h => h)
  refine v_iload_n (f := 0) 0 rfl dX12_in_0 ?_
  refine v_iload_n (f := 1) 1 rfl dX12_in_1 ?_
  refine v_icmp_lt (tgt := 14) dX12_in_2 (by decide) (fun h2_1 => ?_) (fun h2_1 => ?_)
  · refine v_iconst ⟨by decide, by decide⟩ dX12_in_14 ?_
    refine v_zreturn rfl (by first | exact Or.inl rfl | exact Or.inr rfl | omega | (split <;> simp)) dX12_in_15 ⟨by decide, by decide⟩ ?_
    dsimp only [Option.toList, List.cons_append, List.nil_append]
    refine v_zreturn rfl (by first | exact Or.inl rfl | exact Or.inr rfl | omega | (split <;> simp)) dX12_isMortgage_11 ⟨by decide, by decide⟩ ?_
    exact ⟨rfl, _, rfl, by unfold b_b; omega⟩
  · refine v_iload_n (f := 0) 0 rfl dX12_in_5 ?_
    refine v_iload_n (f := 2) 2 rfl dX12_in_6 ?_
    refine v_icmp_gt (tgt := 14) dX12_in_7 (by decide) (fun h7_1 => ?_) (fun h7_1 => ?_)
    · refine v_iconst ⟨by decide, by decide⟩ dX12_in_14 ?_
      refine v_zreturn rfl (by first | exact Or.inl rfl | exact Or.inr rfl | omega | (split <;> simp)) dX12_in_15 ⟨by decide, by decide⟩ ?_
      dsimp only [Option.toList, List.cons_append, List.nil_append]
      refine v_zreturn rfl (by first | exact Or.inl rfl | exact Or.inr rfl | omega | (split <;> simp)) dX12_isMortgage_11 ⟨by decide, by decide⟩ ?_
      exact ⟨rfl, _, rfl, by unfold b_b; omega⟩
    · refine v_iconst ⟨by decide, by decide⟩ dX12_in_10 ?_
      refine v_goto (tgt := 15) dX12_in_11 (by decide) ?_
      refine v_zreturn rfl (by first | exact Or.inl rfl | exact Or.inr rfl | omega | (split <;> simp)) dX12_in_15 ⟨by decide, by decide⟩ ?_
      dsimp only [Option.toList, List.cons_append, List.nil_append]
      refine v_zreturn rfl (by first | exact Or.inl rfl | exact Or.inr rfl | omega | (split <;> simp)) dX12_isMortgage_11 ⟨by decide, by decide⟩ ?_
      exact ⟨rfl, _, rfl, by unfold b_b; omega⟩
abbrev xX12_lesser : bX := ("BurntHallModel", prog_14_method_46_code, 2, (Option.some Jvm.ClassFile.FieldType.int), b_rm 1 0 0, 0, "lesser")
abbrev yX12_lesser : MethodName := ⟨"BurntHallModel", "lesser", "(II)I"⟩
theorem dX12_lesser_0 : decode prog_14_method_46_code 0 = .ok (.iload_n 0, 1) := by decide +kernel
theorem dX12_lesser_1 : decode prog_14_method_46_code 1 = .ok (.iload_n 1, 1) := by decide +kernel
theorem dX12_lesser_2 : decode prog_14_method_46_code 2 = .ok (.if_icmp .ge 7, 3) := by decide +kernel
theorem dX12_lesser_5 : decode prog_14_method_46_code 5 = .ok (.iload_n 0, 1) := by decide +kernel
theorem dX12_lesser_6 : decode prog_14_method_46_code 6 = .ok (.goto 4, 3) := by decide +kernel
theorem dX12_lesser_9 : decode prog_14_method_46_code 9 = .ok (.iload_n 1, 1) := by decide +kernel
theorem dX12_lesser_10 : decode prog_14_method_46_code 10 = .ok (.ireturn, 1) := by decide +kernel
theorem c_X12_lesser {l : Launch} {E : bE} {M : bM} {a b : Int}  : b_C l E xX12_lesser yX12_lesser [bI a, bI b] M (fun r M' => M' = M ∧ ∃ x, r = some (bI x) ∧ x = min a b) := by
  refine b_met (by decide) ⟨rfl, rfl⟩ (Nat.le_of_ble_eq_true rfl) (fun hA hRg => ?_)
  refine v_iload_n (f := 0) 0 rfl dX12_lesser_0 ?_
  refine v_iload_n (f := 1) 1 rfl dX12_lesser_1 ?_
  refine v_icmp_ge (tgt := 9) dX12_lesser_2 (by decide) (fun h2 => ?_) (fun h2 => ?_)
  · refine v_iload_n (f := 1) 1 rfl dX12_lesser_9 ?_
    refine v_ireturn rfl dX12_lesser_10 ⟨by decide, by decide⟩ ?_
    exact ⟨rfl, _, rfl, by omega⟩
  · refine v_iload_n (f := 0) 0 rfl dX12_lesser_5 ?_
    refine v_goto (tgt := 10) dX12_lesser_6 (by decide) ?_
    refine v_ireturn rfl dX12_lesser_10 ⟨by decide, by decide⟩ ?_
    exact ⟨rfl, _, rfl, by omega⟩
abbrev xX12_greater : bX := ("BurntHallModel", prog_14_method_47_code, 2, (Option.some Jvm.ClassFile.FieldType.int), b_rm 1 0 0, 0, "greater")
abbrev yX12_greater : MethodName := ⟨"BurntHallModel", "greater", "(II)I"⟩
theorem dX12_greater_0 : decode prog_14_method_47_code 0 = .ok (.iload_n 0, 1) := by decide +kernel
theorem dX12_greater_1 : decode prog_14_method_47_code 1 = .ok (.iload_n 1, 1) := by decide +kernel
theorem dX12_greater_2 : decode prog_14_method_47_code 2 = .ok (.if_icmp .le 7, 3) := by decide +kernel
theorem dX12_greater_5 : decode prog_14_method_47_code 5 = .ok (.iload_n 0, 1) := by decide +kernel
theorem dX12_greater_6 : decode prog_14_method_47_code 6 = .ok (.goto 4, 3) := by decide +kernel
theorem dX12_greater_9 : decode prog_14_method_47_code 9 = .ok (.iload_n 1, 1) := by decide +kernel
theorem dX12_greater_10 : decode prog_14_method_47_code 10 = .ok (.ireturn, 1) := by decide +kernel
theorem c_X12_greater {l : Launch} {E : bE} {M : bM} {a b : Int}  : b_C l E xX12_greater yX12_greater [bI a, bI b] M (fun r M' => M' = M ∧ ∃ x, r = some (bI x) ∧ x = max a b) := by
  refine b_met (by decide) ⟨rfl, rfl⟩ (Nat.le_of_ble_eq_true rfl) (fun hA hRg => ?_)
  refine v_iload_n (f := 0) 0 rfl dX12_greater_0 ?_
  refine v_iload_n (f := 1) 1 rfl dX12_greater_1 ?_
  refine v_icmp_le (tgt := 9) dX12_greater_2 (by decide) (fun h2 => ?_) (fun h2 => ?_)
  · refine v_iload_n (f := 1) 1 rfl dX12_greater_9 ?_
    refine v_ireturn rfl dX12_greater_10 ⟨by decide, by decide⟩ ?_
    exact ⟨rfl, _, rfl, by omega⟩
  · refine v_iload_n (f := 0) 0 rfl dX12_greater_5 ?_
    refine v_goto (tgt := 10) dX12_greater_6 (by decide) ?_
    refine v_ireturn rfl dX12_greater_10 ⟨by decide, by decide⟩ ?_
    exact ⟨rfl, _, rfl, by omega⟩
abbrev xX12_isSmall : bX := ("BurntHallModel", prog_14_method_8_code, 1, (Option.some Jvm.ClassFile.FieldType.boolean), b_rm 1 0 0, 0, "isSmall")
abbrev yX12_isSmall : MethodName := ⟨"BurntHallModel", "isSmall", "(I)Z"⟩
theorem dX12_isSmall_0 : decode prog_14_method_8_code 0 = .ok (.iload_n 0, 1) := by decide +kernel
theorem dX12_isSmall_1 : decode prog_14_method_8_code 1 = .ok (.bipush 97, 2) := by decide +kernel
theorem dX12_isSmall_3 : decode prog_14_method_8_code 3 = .ok (.if_icmp .lt 13, 3) := by decide +kernel
theorem dX12_isSmall_6 : decode prog_14_method_8_code 6 = .ok (.iload_n 0, 1) := by decide +kernel
theorem dX12_isSmall_7 : decode prog_14_method_8_code 7 = .ok (.bipush 122, 2) := by decide +kernel
theorem dX12_isSmall_9 : decode prog_14_method_8_code 9 = .ok (.if_icmp .gt 7, 3) := by decide +kernel
theorem dX12_isSmall_12 : decode prog_14_method_8_code 12 = .ok (.iconst 1, 1) := by decide +kernel
theorem dX12_isSmall_13 : decode prog_14_method_8_code 13 = .ok (.goto 4, 3) := by decide +kernel
theorem dX12_isSmall_16 : decode prog_14_method_8_code 16 = .ok (.iconst 0, 1) := by decide +kernel
theorem dX12_isSmall_17 : decode prog_14_method_8_code 17 = .ok (.ireturn, 1) := by decide +kernel
theorem c_X12_isSmall {l : Launch} {E : bE} {M : bM} {c : Int}  : b_C l E xX12_isSmall yX12_isSmall [bI c] M (fun r M' => M' = M ∧ ∃ b, r = some (bI b) ∧ b_b (97 ≤ c ∧ c ≤ 122) b) := by
  refine b_met (by decide) ⟨rfl, rfl⟩ (Nat.le_of_ble_eq_true rfl) (fun hA hRg => ?_)
  refine v_iload_n (f := 0) 0 rfl dX12_isSmall_0 ?_
  refine v_bipush ⟨by decide, by decide⟩ (by decide) dX12_isSmall_1 ?_
  refine v_icmp_lt (tgt := 16) dX12_isSmall_3 (by decide) (fun h3 => ?_) (fun h3 => ?_)
  · refine v_iconst ⟨by decide, by decide⟩ dX12_isSmall_16 ?_
    refine v_zreturn rfl (by first | exact Or.inl rfl | exact Or.inr rfl | omega | (split <;> simp)) dX12_isSmall_17 ⟨by decide, by decide⟩ ?_
    exact ⟨rfl, _, rfl, by unfold b_b; omega⟩
  · refine v_iload_n (f := 0) 0 rfl dX12_isSmall_6 ?_
    refine v_bipush ⟨by decide, by decide⟩ (by decide) dX12_isSmall_7 ?_
    refine v_icmp_gt (tgt := 16) dX12_isSmall_9 (by decide) (fun h9 => ?_) (fun h9 => ?_)
    · refine v_iconst ⟨by decide, by decide⟩ dX12_isSmall_16 ?_
      refine v_zreturn rfl (by first | exact Or.inl rfl | exact Or.inr rfl | omega | (split <;> simp)) dX12_isSmall_17 ⟨by decide, by decide⟩ ?_
      exact ⟨rfl, _, rfl, by unfold b_b; omega⟩
    · refine v_iconst ⟨by decide, by decide⟩ dX12_isSmall_12 ?_
      refine v_goto (tgt := 17) dX12_isSmall_13 (by decide) ?_
      refine v_zreturn rfl (by first | exact Or.inl rfl | exact Or.inr rfl | omega | (split <;> simp)) dX12_isSmall_17 ⟨by decide, by decide⟩ ?_
      exact ⟨rfl, _, rfl, by unfold b_b; omega⟩
abbrev xX12_isDigit : bX := ("BurntHallModel", prog_14_method_9_code, 1, (Option.some Jvm.ClassFile.FieldType.boolean), b_rm 1 0 0, 0, "isDigit")
abbrev yX12_isDigit : MethodName := ⟨"BurntHallModel", "isDigit", "(I)Z"⟩
theorem dX12_isDigit_0 : decode prog_14_method_9_code 0 = .ok (.iload_n 0, 1) := by decide +kernel
theorem dX12_isDigit_1 : decode prog_14_method_9_code 1 = .ok (.bipush 48, 2) := by decide +kernel
theorem dX12_isDigit_3 : decode prog_14_method_9_code 3 = .ok (.if_icmp .lt 13, 3) := by decide +kernel
theorem dX12_isDigit_6 : decode prog_14_method_9_code 6 = .ok (.iload_n 0, 1) := by decide +kernel
theorem dX12_isDigit_7 : decode prog_14_method_9_code 7 = .ok (.bipush 57, 2) := by decide +kernel
theorem dX12_isDigit_9 : decode prog_14_method_9_code 9 = .ok (.if_icmp .gt 7, 3) := by decide +kernel
theorem dX12_isDigit_12 : decode prog_14_method_9_code 12 = .ok (.iconst 1, 1) := by decide +kernel
theorem dX12_isDigit_13 : decode prog_14_method_9_code 13 = .ok (.goto 4, 3) := by decide +kernel
theorem dX12_isDigit_16 : decode prog_14_method_9_code 16 = .ok (.iconst 0, 1) := by decide +kernel
theorem dX12_isDigit_17 : decode prog_14_method_9_code 17 = .ok (.ireturn, 1) := by decide +kernel
theorem c_X12_isDigit {l : Launch} {E : bE} {M : bM} {c : Int}  : b_C l E xX12_isDigit yX12_isDigit [bI c] M (fun r M' => M' = M ∧ ∃ b, r = some (bI b) ∧ b_b (48 ≤ c ∧ c ≤ 57) b) := by
  refine b_met (by decide) ⟨rfl, rfl⟩ (Nat.le_of_ble_eq_true rfl) (fun hA hRg => ?_)
  refine v_iload_n (f := 0) 0 rfl dX12_isDigit_0 ?_
  refine v_bipush ⟨by decide, by decide⟩ (by decide) dX12_isDigit_1 ?_
  refine v_icmp_lt (tgt := 16) dX12_isDigit_3 (by decide) (fun h3 => ?_) (fun h3 => ?_)
  · refine v_iconst ⟨by decide, by decide⟩ dX12_isDigit_16 ?_
    refine v_zreturn rfl (by first | exact Or.inl rfl | exact Or.inr rfl | omega | (split <;> simp)) dX12_isDigit_17 ⟨by decide, by decide⟩ ?_
    exact ⟨rfl, _, rfl, by unfold b_b; omega⟩
  · refine v_iload_n (f := 0) 0 rfl dX12_isDigit_6 ?_
    refine v_bipush ⟨by decide, by decide⟩ (by decide) dX12_isDigit_7 ?_
    refine v_icmp_gt (tgt := 16) dX12_isDigit_9 (by decide) (fun h9 => ?_) (fun h9 => ?_)
    · refine v_iconst ⟨by decide, by decide⟩ dX12_isDigit_16 ?_
      refine v_zreturn rfl (by first | exact Or.inl rfl | exact Or.inr rfl | omega | (split <;> simp)) dX12_isDigit_17 ⟨by decide, by decide⟩ ?_
      exact ⟨rfl, _, rfl, by unfold b_b; omega⟩
    · refine v_iconst ⟨by decide, by decide⟩ dX12_isDigit_12 ?_
      refine v_goto (tgt := 17) dX12_isDigit_13 (by decide) ?_
      refine v_zreturn rfl (by first | exact Or.inl rfl | exact Or.inr rfl | omega | (split <;> simp)) dX12_isDigit_17 ⟨by decide, by decide⟩ ?_
      exact ⟨rfl, _, rfl, by unfold b_b; omega⟩
theorem c_X11_isDay {l : Launch} {E : bE} {M : bM} {d : Int}  : b_C l E xX11_isDay yX11_isDay [bI d] M (fun r M' => M' = M ∧ ∃ b, r = some (bI b) ∧ b_b (0 ≤ d ∧ d ≤ 9999) b) := by
  refine b_met (by decide) ⟨rfl, rfl⟩ (Nat.le_of_ble_eq_true rfl) (fun hA hRg => ?_)
  refine v_iload_n (f := 0) 0 rfl dX11_isDay_0 ?_
  refine v_if_lt (tgt := 15) dX11_isDay_1 (by decide) (fun h1 => ?_) (fun h1 => ?_)
  · refine v_iconst ⟨by decide, by decide⟩ dX11_isDay_15 ?_
    refine v_zreturn rfl (by first | exact Or.inl rfl | exact Or.inr rfl | omega | (split <;> simp)) dX11_isDay_16 ⟨by decide, by decide⟩ ?_
    exact ⟨rfl, _, rfl, by unfold b_b; omega⟩
  · refine v_iload_n (f := 0) 0 rfl dX11_isDay_4 ?_
    refine v_sipush ⟨by decide, by decide⟩ (by decide) dX11_isDay_5 ?_
    refine v_icmp_gt (tgt := 15) dX11_isDay_8 (by decide) (fun h8 => ?_) (fun h8 => ?_)
    · refine v_iconst ⟨by decide, by decide⟩ dX11_isDay_15 ?_
      refine v_zreturn rfl (by first | exact Or.inl rfl | exact Or.inr rfl | omega | (split <;> simp)) dX11_isDay_16 ⟨by decide, by decide⟩ ?_
      exact ⟨rfl, _, rfl, by unfold b_b; omega⟩
    · refine v_iconst ⟨by decide, by decide⟩ dX11_isDay_11 ?_
      refine v_goto (tgt := 16) dX11_isDay_12 (by decide) ?_
      refine v_zreturn rfl (by first | exact Or.inl rfl | exact Or.inr rfl | omega | (split <;> simp)) dX11_isDay_16 ⟨by decide, by decide⟩ ?_
      exact ⟨rfl, _, rfl, by unfold b_b; omega⟩
abbrev xX11_isNoneOr : bX := ("BurntHall", prog_1_method_57_code, 2, (Option.some Jvm.ClassFile.FieldType.boolean), b_rm 1 0 0, 0, "isNoneOr")
abbrev yX11_isNoneOr : MethodName := ⟨"BurntHall", "isNoneOr", "(II)Z"⟩
theorem dX11_isNoneOr_0 : decode prog_1_method_57_code 0 = .ok (.iload_n 0, 1) := by decide +kernel
theorem dX11_isNoneOr_1 : decode prog_1_method_57_code 1 = .ok (.iconst (-1), 1) := by decide +kernel
theorem dX11_isNoneOr_2 : decode prog_1_method_57_code 2 = .ok (.if_icmp .lt 12, 3) := by decide +kernel
theorem dX11_isNoneOr_5 : decode prog_1_method_57_code 5 = .ok (.iload_n 0, 1) := by decide +kernel
theorem dX11_isNoneOr_6 : decode prog_1_method_57_code 6 = .ok (.iload_n 1, 1) := by decide +kernel
theorem dX11_isNoneOr_7 : decode prog_1_method_57_code 7 = .ok (.if_icmp .ge 7, 3) := by decide +kernel
theorem dX11_isNoneOr_10 : decode prog_1_method_57_code 10 = .ok (.iconst 1, 1) := by decide +kernel
theorem dX11_isNoneOr_11 : decode prog_1_method_57_code 11 = .ok (.goto 4, 3) := by decide +kernel
theorem dX11_isNoneOr_14 : decode prog_1_method_57_code 14 = .ok (.iconst 0, 1) := by decide +kernel
theorem dX11_isNoneOr_15 : decode prog_1_method_57_code 15 = .ok (.ireturn, 1) := by decide +kernel
theorem c_X11_isNoneOr {l : Launch} {E : bE} {M : bM} {a lim : Int}  : b_C l E xX11_isNoneOr yX11_isNoneOr [bI a, bI lim] M (fun r M' => M' = M ∧ ∃ b, r = some (bI b) ∧ b_b (-1 ≤ a ∧ a < lim) b) := by
  refine b_met (by decide) ⟨rfl, rfl⟩ (Nat.le_of_ble_eq_true rfl) (fun hA hRg => ?_)
  refine v_iload_n (f := 0) 0 rfl dX11_isNoneOr_0 ?_
  refine v_iconst ⟨by decide, by decide⟩ dX11_isNoneOr_1 ?_
  refine v_icmp_lt (tgt := 14) dX11_isNoneOr_2 (by decide) (fun h2 => ?_) (fun h2 => ?_)
  · refine v_iconst ⟨by decide, by decide⟩ dX11_isNoneOr_14 ?_
    refine v_zreturn rfl (by first | exact Or.inl rfl | exact Or.inr rfl | omega | (split <;> simp)) dX11_isNoneOr_15 ⟨by decide, by decide⟩ ?_
    exact ⟨rfl, _, rfl, by unfold b_b; omega⟩
  · refine v_iload_n (f := 0) 0 rfl dX11_isNoneOr_5 ?_
    refine v_iload_n (f := 1) 1 rfl dX11_isNoneOr_6 ?_
    refine v_icmp_ge (tgt := 14) dX11_isNoneOr_7 (by decide) (fun h7 => ?_) (fun h7 => ?_)
    · refine v_iconst ⟨by decide, by decide⟩ dX11_isNoneOr_14 ?_
      refine v_zreturn rfl (by first | exact Or.inl rfl | exact Or.inr rfl | omega | (split <;> simp)) dX11_isNoneOr_15 ⟨by decide, by decide⟩ ?_
      exact ⟨rfl, _, rfl, by unfold b_b; omega⟩
    · refine v_iconst ⟨by decide, by decide⟩ dX11_isNoneOr_10 ?_
      refine v_goto (tgt := 15) dX11_isNoneOr_11 (by decide) ?_
      refine v_zreturn rfl (by first | exact Or.inl rfl | exact Or.inr rfl | omega | (split <;> simp)) dX11_isNoneOr_15 ⟨by decide, by decide⟩ ?_
      exact ⟨rfl, _, rfl, by unfold b_b; omega⟩
abbrev xX5_isFeet : bX := ("BurntHall$Lots", prog_7_method_2_code, 1, (Option.some Jvm.ClassFile.FieldType.boolean), b_rm 1 0 0, 0, "isFeet")
abbrev yX5_isFeet : MethodName := ⟨"BurntHall$Lots", "isFeet", "(I)Z"⟩
theorem dX5_isFeet_0 : decode prog_7_method_2_code 0 = .ok (.iload_n 0, 1) := by decide +kernel
theorem dX5_isFeet_1 : decode prog_7_method_2_code 1 = .ok (.iconst 1, 1) := by decide +kernel
theorem dX5_isFeet_2 : decode prog_7_method_2_code 2 = .ok (.if_icmp .lt 13, 3) := by decide +kernel
theorem dX5_isFeet_5 : decode prog_7_method_2_code 5 = .ok (.iload_n 0, 1) := by decide +kernel
theorem dX5_isFeet_6 : decode prog_7_method_2_code 6 = .ok (.ldc 78, 2) := by decide +kernel
theorem dX5_isFeet_8 : decode prog_7_method_2_code 8 = .ok (.if_icmp .gt 7, 3) := by decide +kernel
theorem dX5_isFeet_11 : decode prog_7_method_2_code 11 = .ok (.iconst 1, 1) := by decide +kernel
theorem dX5_isFeet_12 : decode prog_7_method_2_code 12 = .ok (.goto 4, 3) := by decide +kernel
theorem dX5_isFeet_15 : decode prog_7_method_2_code 15 = .ok (.iconst 0, 1) := by decide +kernel
theorem dX5_isFeet_16 : decode prog_7_method_2_code 16 = .ok (.ireturn, 1) := by decide +kernel
theorem c_X5_isFeet {l : Launch} {E : bE} {M : bM} {d : Int}  : b_C l E xX5_isFeet yX5_isFeet [bI d] M (fun r M' => M' = M ∧ ∃ b, r = some (bI b) ∧ b_b (1 ≤ d ∧ d ≤ 999999) b) := by
  refine b_met (by decide) ⟨rfl, rfl⟩ (Nat.le_of_ble_eq_true rfl) (fun hA hRg => ?_)
  refine v_iload_n (f := 0) 0 rfl dX5_isFeet_0 ?_
  refine v_iconst ⟨by decide, by decide⟩ dX5_isFeet_1 ?_
  refine v_icmp_lt (tgt := 15) dX5_isFeet_2 (by decide) (fun h2 => ?_) (fun h2 => ?_)
  · refine v_iconst ⟨by decide, by decide⟩ dX5_isFeet_15 ?_
    refine v_zreturn rfl (by first | exact Or.inl rfl | exact Or.inr rfl | omega | (split <;> simp)) dX5_isFeet_16 ⟨by decide, by decide⟩ ?_
    exact ⟨rfl, _, rfl, by unfold b_b; omega⟩
  · refine v_iload_n (f := 0) 0 rfl dX5_isFeet_5 ?_
    refine v_ldc (n := 999999) ⟨by decide, by decide⟩ wk_5_78 dX5_isFeet_6 ?_
    refine v_icmp_gt (tgt := 15) dX5_isFeet_8 (by decide) (fun h8 => ?_) (fun h8 => ?_)
    · refine v_iconst ⟨by decide, by decide⟩ dX5_isFeet_15 ?_
      refine v_zreturn rfl (by first | exact Or.inl rfl | exact Or.inr rfl | omega | (split <;> simp)) dX5_isFeet_16 ⟨by decide, by decide⟩ ?_
      exact ⟨rfl, _, rfl, by unfold b_b; omega⟩
    · refine v_iconst ⟨by decide, by decide⟩ dX5_isFeet_11 ?_
      refine v_goto (tgt := 16) dX5_isFeet_12 (by decide) ?_
      refine v_zreturn rfl (by first | exact Or.inl rfl | exact Or.inr rfl | omega | (split <;> simp)) dX5_isFeet_16 ⟨by decide, by decide⟩ ?_
      exact ⟨rfl, _, rfl, by unfold b_b; omega⟩
abbrev xX5_has : bX := ("BurntHall$Lots", prog_7_method_3_code, 2, (Option.some Jvm.ClassFile.FieldType.boolean), b_rm 1 0 0, 0, "has")
abbrev yX5_has : MethodName := ⟨"BurntHall$Lots", "has", "(I)Z"⟩
theorem dX5_has_0 : decode prog_7_method_3_code 0 = .ok (.iload_n 1, 1) := by decide +kernel
theorem dX5_has_1 : decode prog_7_method_3_code 1 = .ok (.ifCond .lt 15, 3) := by decide +kernel
theorem dX5_has_4 : decode prog_7_method_3_code 4 = .ok (.iload_n 1, 1) := by decide +kernel
theorem dX5_has_5 : decode prog_7_method_3_code 5 = .ok (.aload_n 0, 1) := by decide +kernel
theorem dX5_has_6 : decode prog_7_method_3_code 6 = .ok (.getfield 79, 3) := by decide +kernel
theorem dX5_has_9 : decode prog_7_method_3_code 9 = .ok (.if_icmp .ge 7, 3) := by decide +kernel
theorem dX5_has_12 : decode prog_7_method_3_code 12 = .ok (.iconst 1, 1) := by decide +kernel
theorem dX5_has_13 : decode prog_7_method_3_code 13 = .ok (.goto 4, 3) := by decide +kernel
theorem dX5_has_16 : decode prog_7_method_3_code 16 = .ok (.iconst 0, 1) := by decide +kernel
theorem dX5_has_17 : decode prog_7_method_3_code 17 = .ok (.ireturn, 1) := by decide +kernel
theorem c_X5_has {l : Launch} {E : bE} {M : bM} {p : Int}  : b_C l E xX5_has yX5_has [bR 3, bI p] M (fun r M' => M' = M ∧ ∃ b, r = some (bI b) ∧ b_b (0 ≤ p ∧ p < M 3 0) b) := by
  refine b_met (by decide) ⟨rfl, rfl⟩ (Nat.le_of_ble_eq_true rfl) (fun hA hRg => ?_)
  refine v_iload_n (f := 1) 1 rfl dX5_has_0 ?_
  refine v_if_lt (tgt := 16) dX5_has_1 (by decide) (fun h1 => ?_) (fun h1 => ?_)
  · refine v_iconst ⟨by decide, by decide⟩ dX5_has_16 ?_
    refine v_zreturn rfl (by first | exact Or.inl rfl | exact Or.inr rfl | omega | (split <;> simp)) dX5_has_17 ⟨by decide, by decide⟩ ?_
    exact ⟨rfl, _, rfl, by unfold b_b; omega⟩
  · refine v_iload_n (f := 1) 1 rfl dX5_has_4 ?_
    refine v_aload_n (f := 0) 0 rfl dX5_has_5 ?_
    refine v_getI (kf := 0) (kz := 0) rfl kd_3 rfl ⟨by decide, by decide⟩ rfl wf_5_79 dX5_has_6 ?_
    refine v_icmp_ge (tgt := 16) dX5_has_9 (by decide) (fun h9 => ?_) (fun h9 => ?_)
    · refine v_iconst ⟨by decide, by decide⟩ dX5_has_16 ?_
      refine v_zreturn rfl (by first | exact Or.inl rfl | exact Or.inr rfl | omega | (split <;> simp)) dX5_has_17 ⟨by decide, by decide⟩ ?_
      exact ⟨rfl, _, rfl, by unfold b_b; omega⟩
    · refine v_iconst ⟨by decide, by decide⟩ dX5_has_12 ?_
      refine v_goto (tgt := 17) dX5_has_13 (by decide) ?_
      refine v_zreturn rfl (by first | exact Or.inl rfl | exact Or.inr rfl | omega | (split <;> simp)) dX5_has_17 ⟨by decide, by decide⟩ ?_
      exact ⟨rfl, _, rfl, by unfold b_b; omega⟩
abbrev xX7_has : bX := ("BurntHall$Papers", prog_9_method_2_code, 2, (Option.some Jvm.ClassFile.FieldType.boolean), b_rm 1 0 0, 0, "has")
abbrev yX7_has : MethodName := ⟨"BurntHall$Papers", "has", "(I)Z"⟩
theorem dX7_has_0 : decode prog_9_method_2_code 0 = .ok (.iload_n 1, 1) := by decide +kernel
theorem dX7_has_1 : decode prog_9_method_2_code 1 = .ok (.ifCond .lt 15, 3) := by decide +kernel
theorem dX7_has_4 : decode prog_9_method_2_code 4 = .ok (.iload_n 1, 1) := by decide +kernel
theorem dX7_has_5 : decode prog_9_method_2_code 5 = .ok (.aload_n 0, 1) := by decide +kernel
theorem dX7_has_6 : decode prog_9_method_2_code 6 = .ok (.getfield 67, 3) := by decide +kernel
theorem dX7_has_9 : decode prog_9_method_2_code 9 = .ok (.if_icmp .ge 7, 3) := by decide +kernel
theorem dX7_has_12 : decode prog_9_method_2_code 12 = .ok (.iconst 1, 1) := by decide +kernel
theorem dX7_has_13 : decode prog_9_method_2_code 13 = .ok (.goto 4, 3) := by decide +kernel
theorem dX7_has_16 : decode prog_9_method_2_code 16 = .ok (.iconst 0, 1) := by decide +kernel
theorem dX7_has_17 : decode prog_9_method_2_code 17 = .ok (.ireturn, 1) := by decide +kernel
theorem c_X7_has {l : Launch} {E : bE} {M : bM} {p : Int}  : b_C l E xX7_has yX7_has [bR 5, bI p] M (fun r M' => M' = M ∧ ∃ b, r = some (bI b) ∧ b_b (0 ≤ p ∧ p < M 5 0) b) := by
  refine b_met (by decide) ⟨rfl, rfl⟩ (Nat.le_of_ble_eq_true rfl) (fun hA hRg => ?_)
  refine v_iload_n (f := 1) 1 rfl dX7_has_0 ?_
  refine v_if_lt (tgt := 16) dX7_has_1 (by decide) (fun h1 => ?_) (fun h1 => ?_)
  · refine v_iconst ⟨by decide, by decide⟩ dX7_has_16 ?_
    refine v_zreturn rfl (by first | exact Or.inl rfl | exact Or.inr rfl | omega | (split <;> simp)) dX7_has_17 ⟨by decide, by decide⟩ ?_
    exact ⟨rfl, _, rfl, by unfold b_b; omega⟩
  · refine v_iload_n (f := 1) 1 rfl dX7_has_4 ?_
    refine v_aload_n (f := 0) 0 rfl dX7_has_5 ?_
    refine v_getI (kf := 0) (kz := 0) rfl kd_5 rfl ⟨by decide, by decide⟩ rfl wf_7_67 dX7_has_6 ?_
    refine v_icmp_ge (tgt := 16) dX7_has_9 (by decide) (fun h9 => ?_) (fun h9 => ?_)
    · refine v_iconst ⟨by decide, by decide⟩ dX7_has_16 ?_
      refine v_zreturn rfl (by first | exact Or.inl rfl | exact Or.inr rfl | omega | (split <;> simp)) dX7_has_17 ⟨by decide, by decide⟩ ?_
      exact ⟨rfl, _, rfl, by unfold b_b; omega⟩
    · refine v_iconst ⟨by decide, by decide⟩ dX7_has_12 ?_
      refine v_goto (tgt := 17) dX7_has_13 (by decide) ?_
      refine v_zreturn rfl (by first | exact Or.inl rfl | exact Or.inr rfl | omega | (split <;> simp)) dX7_has_17 ⟨by decide, by decide⟩ ?_
      exact ⟨rfl, _, rfl, by unfold b_b; omega⟩
abbrev xX6_has : bX := ("BurntHall$Mortgages", prog_8_method_2_code, 2, (Option.some Jvm.ClassFile.FieldType.boolean), b_rm 1 0 0, 0, "has")
abbrev yX6_has : MethodName := ⟨"BurntHall$Mortgages", "has", "(I)Z"⟩
theorem dX6_has_0 : decode prog_8_method_2_code 0 = .ok (.iload_n 1, 1) := by decide +kernel
theorem dX6_has_1 : decode prog_8_method_2_code 1 = .ok (.ifCond .lt 15, 3) := by decide +kernel
theorem dX6_has_4 : decode prog_8_method_2_code 4 = .ok (.iload_n 1, 1) := by decide +kernel
theorem dX6_has_5 : decode prog_8_method_2_code 5 = .ok (.aload_n 0, 1) := by decide +kernel
theorem dX6_has_6 : decode prog_8_method_2_code 6 = .ok (.getfield 35, 3) := by decide +kernel
theorem dX6_has_9 : decode prog_8_method_2_code 9 = .ok (.if_icmp .ge 7, 3) := by decide +kernel
theorem dX6_has_12 : decode prog_8_method_2_code 12 = .ok (.iconst 1, 1) := by decide +kernel
theorem dX6_has_13 : decode prog_8_method_2_code 13 = .ok (.goto 4, 3) := by decide +kernel
theorem dX6_has_16 : decode prog_8_method_2_code 16 = .ok (.iconst 0, 1) := by decide +kernel
theorem dX6_has_17 : decode prog_8_method_2_code 17 = .ok (.ireturn, 1) := by decide +kernel
theorem c_X6_has {l : Launch} {E : bE} {M : bM} {p : Int}  : b_C l E xX6_has yX6_has [bR 8, bI p] M (fun r M' => M' = M ∧ ∃ b, r = some (bI b) ∧ b_b (0 ≤ p ∧ p < M 8 0) b) := by
  refine b_met (by decide) ⟨rfl, rfl⟩ (Nat.le_of_ble_eq_true rfl) (fun hA hRg => ?_)
  refine v_iload_n (f := 1) 1 rfl dX6_has_0 ?_
  refine v_if_lt (tgt := 16) dX6_has_1 (by decide) (fun h1 => ?_) (fun h1 => ?_)
  · refine v_iconst ⟨by decide, by decide⟩ dX6_has_16 ?_
    refine v_zreturn rfl (by first | exact Or.inl rfl | exact Or.inr rfl | omega | (split <;> simp)) dX6_has_17 ⟨by decide, by decide⟩ ?_
    exact ⟨rfl, _, rfl, by unfold b_b; omega⟩
  · refine v_iload_n (f := 1) 1 rfl dX6_has_4 ?_
    refine v_aload_n (f := 0) 0 rfl dX6_has_5 ?_
    refine v_getI (kf := 0) (kz := 0) rfl kd_8 rfl ⟨by decide, by decide⟩ rfl wf_6_35 dX6_has_6 ?_
    refine v_icmp_ge (tgt := 16) dX6_has_9 (by decide) (fun h9 => ?_) (fun h9 => ?_)
    · refine v_iconst ⟨by decide, by decide⟩ dX6_has_16 ?_
      refine v_zreturn rfl (by first | exact Or.inl rfl | exact Or.inr rfl | omega | (split <;> simp)) dX6_has_17 ⟨by decide, by decide⟩ ?_
      exact ⟨rfl, _, rfl, by unfold b_b; omega⟩
    · refine v_iconst ⟨by decide, by decide⟩ dX6_has_12 ?_
      refine v_goto (tgt := 17) dX6_has_13 (by decide) ?_
      refine v_zreturn rfl (by first | exact Or.inl rfl | exact Or.inr rfl | omega | (split <;> simp)) dX6_has_17 ⟨by decide, by decide⟩ ?_
      exact ⟨rfl, _, rfl, by unfold b_b; omega⟩
abbrev xX3_has : bX := ("BurntHall$Claims", prog_5_method_2_code, 2, (Option.some Jvm.ClassFile.FieldType.boolean), b_rm 1 0 0, 0, "has")
abbrev yX3_has : MethodName := ⟨"BurntHall$Claims", "has", "(I)Z"⟩
theorem dX3_has_0 : decode prog_5_method_2_code 0 = .ok (.iload_n 1, 1) := by decide +kernel
theorem dX3_has_1 : decode prog_5_method_2_code 1 = .ok (.ifCond .lt 15, 3) := by decide +kernel
theorem dX3_has_4 : decode prog_5_method_2_code 4 = .ok (.iload_n 1, 1) := by decide +kernel
theorem dX3_has_5 : decode prog_5_method_2_code 5 = .ok (.aload_n 0, 1) := by decide +kernel
theorem dX3_has_6 : decode prog_5_method_2_code 6 = .ok (.getfield 50, 3) := by decide +kernel
theorem dX3_has_9 : decode prog_5_method_2_code 9 = .ok (.if_icmp .ge 7, 3) := by decide +kernel
theorem dX3_has_12 : decode prog_5_method_2_code 12 = .ok (.iconst 1, 1) := by decide +kernel
theorem dX3_has_13 : decode prog_5_method_2_code 13 = .ok (.goto 4, 3) := by decide +kernel
theorem dX3_has_16 : decode prog_5_method_2_code 16 = .ok (.iconst 0, 1) := by decide +kernel
theorem dX3_has_17 : decode prog_5_method_2_code 17 = .ok (.ireturn, 1) := by decide +kernel
theorem c_X3_has {l : Launch} {E : bE} {M : bM} {p : Int}  : b_C l E xX3_has yX3_has [bR 9, bI p] M (fun r M' => M' = M ∧ ∃ b, r = some (bI b) ∧ b_b (0 ≤ p ∧ p < M 9 0) b) := by
  refine b_met (by decide) ⟨rfl, rfl⟩ (Nat.le_of_ble_eq_true rfl) (fun hA hRg => ?_)
  refine v_iload_n (f := 1) 1 rfl dX3_has_0 ?_
  refine v_if_lt (tgt := 16) dX3_has_1 (by decide) (fun h1 => ?_) (fun h1 => ?_)
  · refine v_iconst ⟨by decide, by decide⟩ dX3_has_16 ?_
    refine v_zreturn rfl (by first | exact Or.inl rfl | exact Or.inr rfl | omega | (split <;> simp)) dX3_has_17 ⟨by decide, by decide⟩ ?_
    exact ⟨rfl, _, rfl, by unfold b_b; omega⟩
  · refine v_iload_n (f := 1) 1 rfl dX3_has_4 ?_
    refine v_aload_n (f := 0) 0 rfl dX3_has_5 ?_
    refine v_getI (kf := 0) (kz := 0) rfl kd_9 rfl ⟨by decide, by decide⟩ rfl wf_3_50 dX3_has_6 ?_
    refine v_icmp_ge (tgt := 16) dX3_has_9 (by decide) (fun h9 => ?_) (fun h9 => ?_)
    · refine v_iconst ⟨by decide, by decide⟩ dX3_has_16 ?_
      refine v_zreturn rfl (by first | exact Or.inl rfl | exact Or.inr rfl | omega | (split <;> simp)) dX3_has_17 ⟨by decide, by decide⟩ ?_
      exact ⟨rfl, _, rfl, by unfold b_b; omega⟩
    · refine v_iconst ⟨by decide, by decide⟩ dX3_has_12 ?_
      refine v_goto (tgt := 17) dX3_has_13 (by decide) ?_
      refine v_zreturn rfl (by first | exact Or.inl rfl | exact Or.inr rfl | omega | (split <;> simp)) dX3_has_17 ⟨by decide, by decide⟩ ?_
      exact ⟨rfl, _, rfl, by unfold b_b; omega⟩
abbrev xX10_isLetter : bX := ("BurntHall$Tape", prog_12_method_16_code, 1, (Option.some Jvm.ClassFile.FieldType.boolean), b_rm 1 0 0, 0, "isLetter")
abbrev yX10_isLetter : MethodName := ⟨"BurntHall$Tape", "isLetter", "(I)Z"⟩
theorem dX10_isLetter_0 : decode prog_12_method_16_code 0 = .ok (.iload_n 0, 1) := by decide +kernel
theorem dX10_isLetter_1 : decode prog_12_method_16_code 1 = .ok (.bipush 97, 2) := by decide +kernel
theorem dX10_isLetter_3 : decode prog_12_method_16_code 3 = .ok (.if_icmp .lt 13, 3) := by decide +kernel
theorem dX10_isLetter_6 : decode prog_12_method_16_code 6 = .ok (.iload_n 0, 1) := by decide +kernel
theorem dX10_isLetter_7 : decode prog_12_method_16_code 7 = .ok (.bipush 122, 2) := by decide +kernel
theorem dX10_isLetter_9 : decode prog_12_method_16_code 9 = .ok (.if_icmp .gt 7, 3) := by decide +kernel
theorem dX10_isLetter_12 : decode prog_12_method_16_code 12 = .ok (.iconst 1, 1) := by decide +kernel
theorem dX10_isLetter_13 : decode prog_12_method_16_code 13 = .ok (.goto 4, 3) := by decide +kernel
theorem dX10_isLetter_16 : decode prog_12_method_16_code 16 = .ok (.iconst 0, 1) := by decide +kernel
theorem dX10_isLetter_17 : decode prog_12_method_16_code 17 = .ok (.ireturn, 1) := by decide +kernel
theorem c_X10_isLetter {l : Launch} {E : bE} {M : bM} {c : Int}  : b_C l E xX10_isLetter yX10_isLetter [bI c] M (fun r M' => M' = M ∧ ∃ b, r = some (bI b) ∧ b_b (97 ≤ c ∧ c ≤ 122) b) := by
  refine b_met (by decide) ⟨rfl, rfl⟩ (Nat.le_of_ble_eq_true rfl) (fun hA hRg => ?_)
  refine v_iload_n (f := 0) 0 rfl dX10_isLetter_0 ?_
  refine v_bipush ⟨by decide, by decide⟩ (by decide) dX10_isLetter_1 ?_
  refine v_icmp_lt (tgt := 16) dX10_isLetter_3 (by decide) (fun h3 => ?_) (fun h3 => ?_)
  · refine v_iconst ⟨by decide, by decide⟩ dX10_isLetter_16 ?_
    refine v_zreturn rfl (by first | exact Or.inl rfl | exact Or.inr rfl | omega | (split <;> simp)) dX10_isLetter_17 ⟨by decide, by decide⟩ ?_
    exact ⟨rfl, _, rfl, by unfold b_b; omega⟩
  · refine v_iload_n (f := 0) 0 rfl dX10_isLetter_6 ?_
    refine v_bipush ⟨by decide, by decide⟩ (by decide) dX10_isLetter_7 ?_
    refine v_icmp_gt (tgt := 16) dX10_isLetter_9 (by decide) (fun h9 => ?_) (fun h9 => ?_)
    · refine v_iconst ⟨by decide, by decide⟩ dX10_isLetter_16 ?_
      refine v_zreturn rfl (by first | exact Or.inl rfl | exact Or.inr rfl | omega | (split <;> simp)) dX10_isLetter_17 ⟨by decide, by decide⟩ ?_
      exact ⟨rfl, _, rfl, by unfold b_b; omega⟩
    · refine v_iconst ⟨by decide, by decide⟩ dX10_isLetter_12 ?_
      refine v_goto (tgt := 17) dX10_isLetter_13 (by decide) ?_
      refine v_zreturn rfl (by first | exact Or.inl rfl | exact Or.inr rfl | omega | (split <;> simp)) dX10_isLetter_17 ⟨by decide, by decide⟩ ?_
      exact ⟨rfl, _, rfl, by unfold b_b; omega⟩
abbrev xX10_isDigit : bX := ("BurntHall$Tape", prog_12_method_17_code, 1, (Option.some Jvm.ClassFile.FieldType.boolean), b_rm 1 0 0, 0, "isDigit")
abbrev yX10_isDigit : MethodName := ⟨"BurntHall$Tape", "isDigit", "(I)Z"⟩
theorem dX10_isDigit_0 : decode prog_12_method_17_code 0 = .ok (.iload_n 0, 1) := by decide +kernel
theorem dX10_isDigit_1 : decode prog_12_method_17_code 1 = .ok (.bipush 48, 2) := by decide +kernel
theorem dX10_isDigit_3 : decode prog_12_method_17_code 3 = .ok (.if_icmp .lt 13, 3) := by decide +kernel
theorem dX10_isDigit_6 : decode prog_12_method_17_code 6 = .ok (.iload_n 0, 1) := by decide +kernel
theorem dX10_isDigit_7 : decode prog_12_method_17_code 7 = .ok (.bipush 57, 2) := by decide +kernel
theorem dX10_isDigit_9 : decode prog_12_method_17_code 9 = .ok (.if_icmp .gt 7, 3) := by decide +kernel
theorem dX10_isDigit_12 : decode prog_12_method_17_code 12 = .ok (.iconst 1, 1) := by decide +kernel
theorem dX10_isDigit_13 : decode prog_12_method_17_code 13 = .ok (.goto 4, 3) := by decide +kernel
theorem dX10_isDigit_16 : decode prog_12_method_17_code 16 = .ok (.iconst 0, 1) := by decide +kernel
theorem dX10_isDigit_17 : decode prog_12_method_17_code 17 = .ok (.ireturn, 1) := by decide +kernel
theorem c_X10_isDigit {l : Launch} {E : bE} {M : bM} {c : Int}  : b_C l E xX10_isDigit yX10_isDigit [bI c] M (fun r M' => M' = M ∧ ∃ b, r = some (bI b) ∧ b_b (48 ≤ c ∧ c ≤ 57) b) := by
  refine b_met (by decide) ⟨rfl, rfl⟩ (Nat.le_of_ble_eq_true rfl) (fun hA hRg => ?_)
  refine v_iload_n (f := 0) 0 rfl dX10_isDigit_0 ?_
  refine v_bipush ⟨by decide, by decide⟩ (by decide) dX10_isDigit_1 ?_
  refine v_icmp_lt (tgt := 16) dX10_isDigit_3 (by decide) (fun h3 => ?_) (fun h3 => ?_)
  · refine v_iconst ⟨by decide, by decide⟩ dX10_isDigit_16 ?_
    refine v_zreturn rfl (by first | exact Or.inl rfl | exact Or.inr rfl | omega | (split <;> simp)) dX10_isDigit_17 ⟨by decide, by decide⟩ ?_
    exact ⟨rfl, _, rfl, by unfold b_b; omega⟩
  · refine v_iload_n (f := 0) 0 rfl dX10_isDigit_6 ?_
    refine v_bipush ⟨by decide, by decide⟩ (by decide) dX10_isDigit_7 ?_
    refine v_icmp_gt (tgt := 16) dX10_isDigit_9 (by decide) (fun h9 => ?_) (fun h9 => ?_)
    · refine v_iconst ⟨by decide, by decide⟩ dX10_isDigit_16 ?_
      refine v_zreturn rfl (by first | exact Or.inl rfl | exact Or.inr rfl | omega | (split <;> simp)) dX10_isDigit_17 ⟨by decide, by decide⟩ ?_
      exact ⟨rfl, _, rfl, by unfold b_b; omega⟩
    · refine v_iconst ⟨by decide, by decide⟩ dX10_isDigit_12 ?_
      refine v_goto (tgt := 17) dX10_isDigit_13 (by decide) ?_
      refine v_zreturn rfl (by first | exact Or.inl rfl | exact Or.inr rfl | omega | (split <;> simp)) dX10_isDigit_17 ⟨by decide, by decide⟩ ?_
      exact ⟨rfl, _, rfl, by unfold b_b; omega⟩
abbrev xX5_room : bX := ("BurntHall$Lots", prog_7_method_4_code, 1, (Option.some Jvm.ClassFile.FieldType.int), b_rm 1 0 0, 0, "room")
abbrev yX5_room : MethodName := ⟨"BurntHall$Lots", "room", "()I"⟩
theorem dX5_room_0 : decode prog_7_method_4_code 0 = .ok (.bipush 60, 2) := by decide +kernel
theorem dX5_room_2 : decode prog_7_method_4_code 2 = .ok (.aload_n 0, 1) := by decide +kernel
theorem dX5_room_3 : decode prog_7_method_4_code 3 = .ok (.getfield 79, 3) := by decide +kernel
theorem dX5_room_6 : decode prog_7_method_4_code 6 = .ok (.isub, 1) := by decide +kernel
theorem dX5_room_7 : decode prog_7_method_4_code 7 = .ok (.ireturn, 1) := by decide +kernel
theorem c_X5_room {l : Launch} {E : bE} {M : bM} (h : 0 ≤ M 3 0 ∧ M 3 0 ≤ 60) : b_C l E xX5_room yX5_room [bR 3] M (fun r M' => M' = M ∧ ∃ x, r = some (bI x) ∧ x = 60 - M 3 0) := by
  refine b_met (by decide) ⟨rfl, rfl⟩ (Nat.le_of_ble_eq_true rfl) (fun hA hRg => ?_)
  refine v_bipush ⟨by decide, by decide⟩ (by decide) dX5_room_0 ?_
  refine v_aload_n (f := 0) 0 rfl dX5_room_2 ?_
  refine v_getI (kf := 0) (kz := 0) rfl kd_3 rfl ⟨by decide, by decide⟩ rfl wf_5_79 dX5_room_3 ?_
  refine v_isubN (by unfold b_r32; first | omega | (simp (disch := decide) only [b_upc, b_upi, b_ups]; omega)) dX5_room_6 ?_
  refine v_ireturn rfl dX5_room_7 ⟨by decide, by decide⟩ ?_
  exact ⟨rfl, _, rfl, by omega⟩
