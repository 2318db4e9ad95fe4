theorem b_sumS (f : Int → Int) {t : Int} (h : 0 ≤ t) : b_sum f (t + 1).toNat = b_sum f t.toNat + f t := by
  have e : (t + 1).toNat = t.toNat + 1 := by omega
  rw [e]
  show b_sum f t.toNat + f (t.toNat : Int) = _
  rw [Int.toNat_of_nonneg h]
theorem b_sumR (f : Int → Int) (hf : ∀ i, 0 ≤ f i ∧ f i ≤ 1) : ∀ n, 0 ≤ b_sum f n ∧ b_sum f n ≤ n := by
  intro n
  induction n with
  | zero => exact ⟨Int.le_refl _, Int.le_refl _⟩
  | succ n ih =>
    have := hf n
    show 0 ≤ b_sum f n + f n ∧ b_sum f n + f n ≤ ((n + 1 : Nat) : Int)
    omega
def s_qu (M : bM) (day : Int) (t : Int) : Int := if M 77 t = 2 ∧ M 80 t ≤ day ∧ M 81 (M 78 t) = M 81 (M 79 t) then 1 else 0
theorem s_quI (M : bM) (day : Int) (t : Int) : (s_qu M day t = 1 ↔ (M 77 t = 2 ∧ M 80 t ≤ day ∧ M 81 (M 78 t) = M 81 (M 79 t))) ∧ (s_qu M day t = 0 ∨ s_qu M day t = 1) := b_i01 _
theorem s_qu01 (M : bM) (day : Int) (t : Int) : 0 ≤ s_qu M day t ∧ s_qu M day t ≤ 1 := by unfold s_qu; split <;> omega
abbrev xX8_quarrels : bX := ("BurntHall$People", prog_10_method_12_code, 4, (Option.some Jvm.ClassFile.FieldType.int), b_rm 1 0 0, 0, "quarrels")
abbrev yX8_quarrels : MethodName := ⟨"BurntHall$People", "quarrels", "(I)I"⟩
theorem dX8_quarrels_0 : decode prog_10_method_12_code 0 = .ok (.iconst 0, 1) := by decide +kernel
theorem dX8_quarrels_1 : decode prog_10_method_12_code 1 = .ok (.istore_n 2, 1) := by decide +kernel
theorem dX8_quarrels_2 : decode prog_10_method_12_code 2 = .ok (.iconst 0, 1) := by decide +kernel
theorem dX8_quarrels_3 : decode prog_10_method_12_code 3 = .ok (.istore_n 3, 1) := by decide +kernel
theorem dX8_quarrels_4 : decode prog_10_method_12_code 4 = .ok (.iload_n 3, 1) := by decide +kernel
theorem dX8_quarrels_5 : decode prog_10_method_12_code 5 = .ok (.aload_n 0, 1) := by decide +kernel
theorem dX8_quarrels_6 : decode prog_10_method_12_code 6 = .ok (.getfield 47, 3) := by decide +kernel
theorem dX8_quarrels_9 : decode prog_10_method_12_code 9 = .ok (.if_icmp .ge 57, 3) := by decide +kernel
theorem dX8_quarrels_12 : decode prog_10_method_12_code 12 = .ok (.aload_n 0, 1) := by decide +kernel
theorem dX8_quarrels_13 : decode prog_10_method_12_code 13 = .ok (.getfield 15, 3) := by decide +kernel
theorem dX8_quarrels_16 : decode prog_10_method_12_code 16 = .ok (.iload_n 3, 1) := by decide +kernel
theorem dX8_quarrels_17 : decode prog_10_method_12_code 17 = .ok (.iaload, 1) := by decide +kernel
theorem dX8_quarrels_18 : decode prog_10_method_12_code 18 = .ok (.iconst 2, 1) := by decide +kernel
theorem dX8_quarrels_19 : decode prog_10_method_12_code 19 = .ok (.if_icmp .ne 41, 3) := by decide +kernel
theorem dX8_quarrels_22 : decode prog_10_method_12_code 22 = .ok (.aload_n 0, 1) := by decide +kernel
theorem dX8_quarrels_23 : decode prog_10_method_12_code 23 = .ok (.getfield 24, 3) := by decide +kernel
theorem dX8_quarrels_26 : decode prog_10_method_12_code 26 = .ok (.iload_n 3, 1) := by decide +kernel
theorem dX8_quarrels_27 : decode prog_10_method_12_code 27 = .ok (.iaload, 1) := by decide +kernel
theorem dX8_quarrels_28 : decode prog_10_method_12_code 28 = .ok (.iload_n 1, 1) := by decide +kernel
theorem dX8_quarrels_29 : decode prog_10_method_12_code 29 = .ok (.if_icmp .gt 31, 3) := by decide +kernel
theorem dX8_quarrels_32 : decode prog_10_method_12_code 32 = .ok (.aload_n 0, 1) := by decide +kernel
theorem dX8_quarrels_33 : decode prog_10_method_12_code 33 = .ok (.getfield 31, 3) := by decide +kernel
theorem dX8_quarrels_36 : decode prog_10_method_12_code 36 = .ok (.aload_n 0, 1) := by decide +kernel
theorem dX8_quarrels_37 : decode prog_10_method_12_code 37 = .ok (.getfield 18, 3) := by decide +kernel
theorem dX8_quarrels_40 : decode prog_10_method_12_code 40 = .ok (.iload_n 3, 1) := by decide +kernel
theorem dX8_quarrels_41 : decode prog_10_method_12_code 41 = .ok (.iaload, 1) := by decide +kernel
theorem dX8_quarrels_42 : decode prog_10_method_12_code 42 = .ok (.iaload, 1) := by decide +kernel
theorem dX8_quarrels_43 : decode prog_10_method_12_code 43 = .ok (.aload_n 0, 1) := by decide +kernel
theorem dX8_quarrels_44 : decode prog_10_method_12_code 44 = .ok (.getfield 31, 3) := by decide +kernel
theorem dX8_quarrels_47 : decode prog_10_method_12_code 47 = .ok (.aload_n 0, 1) := by decide +kernel
theorem dX8_quarrels_48 : decode prog_10_method_12_code 48 = .ok (.getfield 21, 3) := by decide +kernel
theorem dX8_quarrels_51 : decode prog_10_method_12_code 51 = .ok (.iload_n 3, 1) := by decide +kernel
theorem dX8_quarrels_52 : decode prog_10_method_12_code 52 = .ok (.iaload, 1) := by decide +kernel
theorem dX8_quarrels_53 : decode prog_10_method_12_code 53 = .ok (.iaload, 1) := by decide +kernel
theorem dX8_quarrels_54 : decode prog_10_method_12_code 54 = .ok (.if_icmp .ne 6, 3) := by decide +kernel
theorem dX8_quarrels_57 : decode prog_10_method_12_code 57 = .ok (.iinc 2 1, 3) := by decide +kernel
theorem dX8_quarrels_60 : decode prog_10_method_12_code 60 = .ok (.iinc 3 1, 3) := by decide +kernel
theorem dX8_quarrels_63 : decode prog_10_method_12_code 63 = .ok (.goto (-59), 3) := by decide +kernel
theorem dX8_quarrels_66 : decode prog_10_method_12_code 66 = .ok (.iload_n 2, 1) := by decide +kernel
theorem dX8_quarrels_67 : decode prog_10_method_12_code 67 = .ok (.ireturn, 1) := by decide +kernel
theorem w_X8_quarrels {l : Launch} {E : bE} {M : bM} {Post : Option bV → bM → Prop} {day : Int} (hn : 0 ≤ M 2 1 ∧ M 2 1 ≤ 400) (hw : ∀ t, 0 ≤ t → t < M 2 1 → M 77 t = 2 → 0 ≤ M 78 t ∧ M 78 t < 80 ∧ 0 ≤ M 79 t ∧ M 79 t < 80) (hp : Post (some (bI (b_sum (s_qu M day) (M 2 1).toNat))) M) : ∀ (n : Nat) (t found : Int), 0 ≤ t → t ≤ M 2 1 → M 2 1 - t < n → found = b_sum (s_qu M day) t.toNat → V l E xX8_quarrels (0, 0) 4 [(0, bR 2), (1, bI day), (2, bI found), (3, bI t)] [] M Post := by
  intro n
  induction n with
  | zero => intro t found h0 h1 h2; omega
  | succ n ih =>
    intro t found h0 h1 h2 h3
    have hfr := b_sumR (s_qu M day) (s_qu01 M day) t.toNat
    refine v_iload_n (f := 3) 3 rfl dX8_quarrels_4 ?_
    refine v_aload_n (f := 0) 0 rfl dX8_quarrels_5 ?_
    refine v_getI (kf := 1) (kz := 1) rfl kd_2 rfl ⟨by decide, by decide⟩ rfl wf_8_47 dX8_quarrels_6 ?_
    refine v_icmp_ge (tgt := 66) dX8_quarrels_9 (by decide) (fun h9 => ?_) (fun h9 => ?_)
    · refine v_iload_n (f := 2) 2 rfl dX8_quarrels_66 ?_
      refine v_ireturn rfl dX8_quarrels_67 ⟨by decide, by decide⟩ ?_
      have ht : t = M 2 1 := by omega
      subst ht
      rw [h3]
      exact hp
    · refine v_aload_n (f := 0) 0 rfl dX8_quarrels_12 ?_
      refine v_getR (kf := 3) (kz := 3) rfl kd_2 rfl ⟨by decide, by decide⟩ rfl wf_8_15 dX8_quarrels_13 ?_
      refine v_iload_n (f := 3) 3 rfl dX8_quarrels_16 ?_
      refine v_iaload kd_77 (by first | omega | (simp (disch := decide) only [b_upc, b_upi, b_ups]; omega)) (by decide) dX8_quarrels_17 ?_
      refine v_iconst ⟨by decide, by decide⟩ dX8_quarrels_18 ?_
      refine v_icmp_ne (tgt := 60) dX8_quarrels_19 (by decide) (fun h19 => ?_) (fun h19 => ?_)
      · refine v_iincN (ls' := [(3, bI _), (0, bR _), (1, bI _), (2, bI _)]) 3 rfl (by decide) (by unfold b_r32; first | omega | (simp (disch := decide) only [b_upc, b_upi, b_ups]; omega)) dX8_quarrels_60 rfl ?_
        refine v_goto (tgt := 4) dX8_quarrels_63 (by decide) ?_
        refine v_sub (ls2 := [(0, bR _), (1, bI _), (2, bI _), (3, bI _)]) [1, 2, 3, 0] rfl ?_
        exact ih _ _ (by omega) (by omega) (by omega) (by
          have hs := s_quI M day t
          rw [b_sumS _ h0]
          omega)
      · have hwt := hw t h0 (by omega) (by omega)
        refine v_aload_n (f := 0) 0 rfl dX8_quarrels_22 ?_
        refine v_getR (kf := 6) (kz := 6) rfl kd_2 rfl ⟨by decide, by decide⟩ rfl wf_8_24 dX8_quarrels_23 ?_
        refine v_iload_n (f := 3) 3 rfl dX8_quarrels_26 ?_
        refine v_iaload kd_80 (by first | omega | (simp (disch := decide) only [b_upc, b_upi, b_ups]; omega)) (by decide) dX8_quarrels_27 ?_
        refine v_iload_n (f := 1) 1 rfl dX8_quarrels_28 ?_
        refine v_icmp_gt (tgt := 60) dX8_quarrels_29 (by decide) (fun h29 => ?_) (fun h29 => ?_)
        · refine v_iincN (ls' := [(3, bI _), (0, bR _), (1, bI _), (2, bI _)]) 3 rfl (by decide) (by unfold b_r32; first | omega | (simp (disch := decide) only [b_upc, b_upi, b_ups]; omega)) dX8_quarrels_60 rfl ?_
          refine v_goto (tgt := 4) dX8_quarrels_63 (by decide) ?_
          refine v_sub (ls2 := [(0, bR _), (1, bI _), (2, bI _), (3, bI _)]) [1, 2, 3, 0] rfl ?_
          exact ih _ _ (by omega) (by omega) (by omega) (by
            have hs := s_quI M day t
            rw [b_sumS _ h0]
            omega)
        · refine v_aload_n (f := 0) 0 rfl dX8_quarrels_32 ?_
          refine v_getR (kf := 10) (kz := 10) rfl kd_2 rfl ⟨by decide, by decide⟩ rfl wf_8_31 dX8_quarrels_33 ?_
          refine v_aload_n (f := 0) 0 rfl dX8_quarrels_36 ?_
          refine v_getR (kf := 4) (kz := 4) rfl kd_2 rfl ⟨by decide, by decide⟩ rfl wf_8_18 dX8_quarrels_37 ?_
          refine v_iload_n (f := 3) 3 rfl dX8_quarrels_40 ?_
          refine v_iaload kd_78 (by first | omega | (simp (disch := decide) only [b_upc, b_upi, b_ups]; omega)) (by decide) dX8_quarrels_41 ?_
          refine v_iaload kd_81 (by first | omega | (simp (disch := decide) only [b_upc, b_upi, b_ups]; omega)) (by decide) dX8_quarrels_42 ?_
          refine v_aload_n (f := 0) 0 rfl dX8_quarrels_43 ?_
          refine v_getR (kf := 10) (kz := 10) rfl kd_2 rfl ⟨by decide, by decide⟩ rfl wf_8_31 dX8_quarrels_44 ?_
          refine v_aload_n (f := 0) 0 rfl dX8_quarrels_47 ?_
          refine v_getR (kf := 5) (kz := 5) rfl kd_2 rfl ⟨by decide, by decide⟩ rfl wf_8_21 dX8_quarrels_48 ?_
          refine v_iload_n (f := 3) 3 rfl dX8_quarrels_51 ?_
          refine v_iaload kd_79 (by first | omega | (simp (disch := decide) only [b_upc, b_upi, b_ups]; omega)) (by decide) dX8_quarrels_52 ?_
          refine v_iaload kd_81 (by first | omega | (simp (disch := decide) only [b_upc, b_upi, b_ups]; omega)) (by decide) dX8_quarrels_53 ?_
          refine v_icmp_ne (tgt := 60) dX8_quarrels_54 (by decide) (fun h54 => ?_) (fun h54 => ?_)
          · refine v_iincN (ls' := [(3, bI _), (0, bR _), (1, bI _), (2, bI _)]) 3 rfl (by decide) (by unfold b_r32; first | omega | (simp (disch := decide) only [b_upc, b_upi, b_ups]; omega)) dX8_quarrels_60 rfl ?_
            refine v_goto (tgt := 4) dX8_quarrels_63 (by decide) ?_
            refine v_sub (ls2 := [(0, bR _), (1, bI _), (2, bI _), (3, bI _)]) [1, 2, 3, 0] rfl ?_
            exact ih _ _ (by omega) (by omega) (by omega) (by
              have hs := s_quI M day t
              rw [b_sumS _ h0]
              omega)
          · refine v_iincN (ls' := [(2, bI _), (0, bR _), (1, bI _), (3, bI _)]) 2 rfl (by decide) (by unfold b_r32; first | omega | (simp (disch := decide) only [b_upc, b_upi, b_ups]; omega)) dX8_quarrels_57 rfl ?_
            refine v_iincN (ls' := [(3, bI _), (2, bI _), (0, bR _), (1, bI _)]) 3 rfl (by decide) (by unfold b_r32; first | omega | (simp (disch := decide) only [b_upc, b_upi, b_ups]; omega)) dX8_quarrels_60 rfl ?_
            refine v_goto (tgt := 4) dX8_quarrels_63 (by decide) ?_
            refine v_sub (ls2 := [(0, bR _), (1, bI _), (2, bI _), (3, bI _)]) [2, 3, 1, 0] rfl ?_
            exact ih _ _ (by omega) (by omega) (by omega) (by
              have hs := s_quI M day t
              rw [b_sumS _ h0]
              omega)
theorem c_X8_quarrels {l : Launch} {E : bE} {M : bM} {day : Int} (hn : 0 ≤ M 2 1 ∧ M 2 1 ≤ 400) (hw : ∀ t, 0 ≤ t → t < M 2 1 → M 77 t = 2 → 0 ≤ M 78 t ∧ M 78 t < 80 ∧ 0 ≤ M 79 t ∧ M 79 t < 80) : b_C l E xX8_quarrels yX8_quarrels [bR 2, bI day] M (fun r M' => M' = M ∧ r = some (bI (b_sum (s_qu M day) (M 2 1).toNat))) := by
  refine b_met (by decide) ⟨rfl, rfl⟩ (Nat.le_of_ble_eq_true rfl) (fun hA hRg => ?_)
  refine v_iconst ⟨by decide, by decide⟩ dX8_quarrels_0 ?_
  refine v_istore_n (g := 2) (i := 2) (ls' := [(2, bI _), (0, bR _), (1, bI _)]) rfl (by decide) dX8_quarrels_1 rfl ?_
  refine v_iconst ⟨by decide, by decide⟩ dX8_quarrels_2 ?_
  refine v_istore_n (g := 3) (i := 3) (ls' := [(3, bI _), (2, bI _), (0, bR _), (1, bI _)]) rfl (by decide) dX8_quarrels_3 rfl ?_
  refine v_sub (ls2 := [(0, bR _), (1, bI _), (2, bI _), (3, bI _)]) [2, 3, 1, 0] rfl ?_
  exact w_X8_quarrels hn hw ⟨rfl, rfl⟩ 401 _ _ (by omega) (by omega) (by omega) rfl
