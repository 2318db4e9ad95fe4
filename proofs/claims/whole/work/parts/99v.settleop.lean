theorem i_p2 : ∀ n : Fin 13, i_shl 1 (n.val : Int) = ((2 ^ n.val : Nat) : Int) := by decide +kernel
theorem i_p2r {n : Int} (h : 0 ≤ n ∧ n ≤ 12) : 1 ≤ i_shl 1 n ∧ i_shl 1 n ≤ 4096 := by
  have e := i_p2 ⟨n.toNat, by omega⟩
  dsimp only at e
  rw [show ((n.toNat : Nat) : Int) = n by omega] at e
  have h1 : 1 ≤ 2 ^ n.toNat := Nat.one_le_two_pow
  have h2 : 2 ^ n.toNat ≤ 2 ^ 12 := Nat.pow_le_pow_right (by decide) (by omega)
  omega
theorem Q_of {M N : bM} (hC : C_all N) (hG : G_all N (M 0 10)) (f : b_fr W_X4_know M N) (hD : R_day M) (hcl : R_claim M) (hcr : R_cref M) (hru : R_rul M) (hP : R_place M) : Q_all N := by
  have e : N 0 10 = M 0 10 := f 0 10 (by decide)
  refine ⟨hC, by rw [e]; exact hG, R_day_k (b_kp1 f (by decide +kernel)) hD, R_claim_k (b_kp1 f (by decide +kernel)) hcl, R_cref_k (b_kp1 f (by decide +kernel)) hcr, R_rul_k (b_kp1 f (by decide +kernel)) hru, R_place_k (b_kp1 f (by decide +kernel)) hP⟩
theorem op_settles {s : Int} {M : bM} (hC : C_all M) (hD : R_day M) (hcl : R_claim M) (hcr : R_cref M) (hru : R_rul M) (hP : R_place M) : b_wp (F_X11_settles s M) (fun o => b_wp (F_X12_settles s o.2) (fun o2 => o.1 = o2.1 ∧ C_all o2.2)) := by
  have p1 := hP.1
  have sh := i_p2r (n := M 10 0) (by omega)
  unfold F_X11_settles
  by_cases q : 0 ≤ s ∧ s < i_shl 1 (M 10 0)
  · refine b_Wf (by omega) (b_Wt q.2 (b_Wb (b_wp_m (fun N w => ?_) (t_evC hC hD.2))))
    obtain ⟨y1, y2, y3⟩ := w
    have hQ := Q_of y2 y3 y1 hD hcl hcr hru hP
    refine b_Wb (b_wp_m (fun o z => ?_) (t_settledBy (s := s) hQ))
    obtain ⟨x, P⟩ := o
    obtain ⟨z1, z2⟩ := z
    dsimp only at z1 z2
    refine b_Wtwo (b_Ws ?_)
    dsimp only
    have e18 : P 11 118 = M 10 0 := by rw [z1 11 118 (by decide), y1 11 118 (by decide), p1.1]
    unfold F_X12_settles
    rewrite [e18]
    refine b_Wg (by unfold b_i32; omega) (b_We e_X12_in (b_Wf (by rw [b_01_0]; omega) (b_Wb (b_wp_m (fun R k => ?_) (t_makeSettled (f := s) (t := s) hQ z1 (by decide +kernel) (by decide +kernel) (by decide +kernel) (by omega))))))
    exact b_Wg (by omega) (b_Ws ⟨by dsimp only; rw [z2, k.2 s (by omega) (by omega)], C_k k.1 (by decide +kernel) (C_k z1 (by decide +kernel) y2)⟩)
  · have out : b_wp (F_X12_settles s M) (fun o2 => (-2 : Int) = o2.1 ∧ C_all o2.2) := by
      unfold F_X12_settles
      rw [p1.1]
      exact b_Wg (by unfold b_i32; omega) (b_We e_X12_in (b_Wt (by rw [b_01_0]; omega) (b_Ws ⟨rfl, hC⟩)))
    exact b_Wi (fun _ => b_Ws out) (fun _ => b_Wf (by omega) (b_Ws out))
/-- the best set among the first k + 1 -/
noncomputable def x_bf (M : bM) (v : Int) : Nat → Int
  | 0 => 0
  | k + 1 => @ite Int (x_cs M ((k : Int) + 1) (M 10 0).toNat ≤ v ∧ (x_tl M (M 0 10) (x_bf M v k) 60 < x_tl M (M 0 10) ((k : Int) + 1) 60 ∨ (x_tl M (M 0 10) ((k : Int) + 1) 60 = x_tl M (M 0 10) (x_bf M v k) 60 ∧ x_cs M ((k : Int) + 1) (M 10 0).toNat < x_cs M (x_bf M v k) (M 10 0).toNat))) (Classical.propDecidable _) ((k : Int) + 1) (x_bf M v k)
theorem x_bf_s {M : bM} {v s : Int} (hs : 1 ≤ s) (h : x_cs M s (M 10 0).toNat ≤ v ∧ (x_tl M (M 0 10) (x_bf M v (s - 1).toNat) 60 < x_tl M (M 0 10) s 60 ∨ (x_tl M (M 0 10) s 60 = x_tl M (M 0 10) (x_bf M v (s - 1).toNat) 60 ∧ x_cs M s (M 10 0).toNat < x_cs M (x_bf M v (s - 1).toNat) (M 10 0).toNat))) : x_bf M v s.toNat = s := by
  obtain ⟨k, rfl⟩ : ∃ k : Nat, s = (k : Int) + 1 := ⟨(s - 1).toNat, by omega⟩
  rw [show ((k : Int) + 1).toNat = k + 1 by omega]
  rw [show ((k : Int) + 1 - 1).toNat = k by omega] at h
  exact if_pos h
theorem x_bf_n {M : bM} {v s : Int} (hs : 1 ≤ s) (h : ¬ (x_cs M s (M 10 0).toNat ≤ v ∧ (x_tl M (M 0 10) (x_bf M v (s - 1).toNat) 60 < x_tl M (M 0 10) s 60 ∨ (x_tl M (M 0 10) s 60 = x_tl M (M 0 10) (x_bf M v (s - 1).toNat) 60 ∧ x_cs M s (M 10 0).toNat < x_cs M (x_bf M v (s - 1).toNat) (M 10 0).toNat)))) : x_bf M v s.toNat = x_bf M v (s - 1).toNat := by
  obtain ⟨k, rfl⟩ : ∃ k : Nat, s = (k : Int) + 1 := ⟨(s - 1).toNat, by omega⟩
  rw [show ((k : Int) + 1).toNat = k + 1 by omega]
  rw [show ((k : Int) + 1 - 1).toNat = k by omega] at h ⊢
  exact if_neg h
theorem x_bf_r {M : bM} {v : Int} : ∀ k : Nat, 0 ≤ x_bf M v k ∧ x_bf M v k ≤ k := by
  intro k
  induction k with
  | zero => exact ⟨Int.le_refl _, Int.le_refl _⟩
  | succ k ih =>
    unfold x_bf
    split <;> omega
theorem x_cs_0 {M : bM} : ∀ n : Nat, x_cs M 0 n = 0 := by
  intro n
  induction n with
  | zero => rfl
  | succ n ih =>
    show x_cs M 0 n + _ = 0
    rw [ih, i_bt_0, if_neg (by decide)]
    rfl
theorem x_gn_0 {M : bM} {b : Int} : ∀ n : Nat, x_gn M 0 b n = 0 := by
  intro n
  induction n with
  | zero => rfl
  | succ n ih =>
    show x_gn M 0 b n + _ = 0
    rw [ih, i_bt_0, if_neg (fun z => absurd z.1 (by decide))]
    rfl
theorem x_cs_c {M N : bM} (h : N 155 = M 155) {s : Int} : ∀ n : Nat, x_cs N s n = x_cs M s n := by
  intro n
  induction n with
  | zero => rfl
  | succ n ih =>
    show x_cs N s n + _ = x_cs M s n + _
    rw [ih, h]
/-- the class's best set -/
theorem t_best {N : bM} {v : Int} (hQ : Q_all N) (hv : 0 ≤ v ∧ v ≤ 1200) : b_wp (F_X9_bestWithin v (N 0 10) N) (fun o => b_fr W_X9_bestWithin N o.2 ∧ o.2 10 13 = 1 ∧ o.2 10 14 = x_bf N v (i_shl 1 (N 10 0) - 1).toNat ∧ o.2 10 15 = x_cs N (o.2 10 14) (N 10 0).toNat ∧ o.1 = x_tl N (N 0 10) (o.2 10 14) 60) := by
  refine b_wl_wp (w_X9_bestWithin b_fr_refl) ?_
  have hP := hQ.2.2.2.2.2.2
  have p1 := hP.1
  have sh := i_p2r (n := N 10 0) (by omega)
  unfold F_X9_bestWithin
  refine b_Wb (b_wp_m (fun Q z => ?_) (t_gather3 hQ))
  obtain ⟨z1, z2, z3, z4⟩ := z
  refine b_Wb (b_wp_m (fun P y => ?_) t_fill158)
  obtain ⟨y1, y2⟩ := y
  refine b_Wb (b_wp_m (fun o x => ?_) (b_loop_ind (P := fun o : Int × bM => o.2 10 14 = x_bf N v (i_shl 1 (N 10 0) - 1).toNat ∧ o.2 10 15 = x_cs N (o.2 10 14) (N 10 0).toNat ∧ o.1 = x_tl N (N 0 10) (o.2 10 14) 60) (I := fun t : Int × Int × Int × bM => (0 ≤ t.2.2.1 ∧ t.2.2.1 ≤ i_shl 1 (N 10 0)) ∧ ((∀ c j, c ≠ 158 → c ≠ 10 → t.2.2.2 c j = Q c j) ∧ t.2.2.2 10 9 = Q 10 9 ∧ t.2.2.2 10 0 = N 10 0) ∧ ((t.2.2.1 = 0 ∧ t.1 = -1 ∧ t.2.1 = 0 ∧ ∀ b, 0 ≤ b → b < 30 → t.2.2.2 158 b = 0) ∨ (1 ≤ t.2.2.1 ∧ t.2.2.2 10 14 = x_bf N v (t.2.2.1 - 1).toNat ∧ t.2.2.2 10 15 = x_cs N (t.2.2.2 10 14) (N 10 0).toNat ∧ t.1 = x_tl N (N 0 10) (t.2.2.2 10 14) 60 ∧ t.2.1 = x_cs N (t.2.2.1 - 1) (N 10 0).toNat ∧ ∀ b, 0 ≤ b → b < 30 → t.2.2.2 158 b = x_gn N (t.2.2.1 - 1) b (N 10 0).toNat))) (fun t => (i_shl 1 (N 10 0) - t.2.2.1).toNat) ?_ (-1, 0, 0, P) ⟨by dsimp only; omega, ⟨fun c j e1 _ => y1 c j e1, y1 10 9 (by decide), by dsimp only; rw [y1 10 0 (by decide), z1 10 0 (by decide)]⟩, Or.inl ⟨rfl, rfl, rfl, y2⟩⟩))
  · obtain ⟨x1, x2, x3⟩ := x
    unfold F_X9_bestWithin_b116
    refine b_Wl (b_Ws ⟨by dsimp only; exact b_ups, ?_, ?_, ?_⟩)
    · dsimp only; rw [b_upi (by decide)]; exact x1
    · dsimp only; rw [b_upi (by decide), b_upi (by decide)]; exact x2
    · dsimp only; rw [b_upi (by decide)]; exact x3
  intro ⟨be, sp, s, R⟩ ⟨h1, ⟨h2, h9, h0⟩, h3⟩
  dsimp only at h1 h2 h9 h0 h3 ⊢
  unfold F_X9_bestWithin_s21
  rw [h0]
  refine b_Wi (fun q => b_Ws ?_) (fun q => ?_)
  · have e : s = i_shl 1 (N 10 0) := by omega
    rw [← e]
    have h4 := h3.resolve_left (fun y => by have := y.1; omega)
    exact ⟨h4.2.1, h4.2.2.1, h4.2.2.2.1⟩
  have csr := x_cs_r (s := s) hP (N 10 0).toNat (by omega)
  have csp := x_cs_r (s := s - 1) hP (N 10 0).toNat (by omega)
  -- after the turn
  have fin : ∀ (T : bM) (u : Int), (∀ c j, c ≠ 158 → c ≠ 10 → T c j = Q c j) → T 10 9 = Q 10 9 → T 10 0 = N 10 0 → (∀ b, 0 ≤ b → b < 30 → T 158 b = x_gn N s b (N 10 0).toNat) → u = x_cs N s (N 10 0).toNat → ((s = 0 ∧ be = -1) ∨ (1 ≤ s ∧ T 10 14 = x_bf N v (s - 1).toNat ∧ T 10 15 = x_cs N (T 10 14) (N 10 0).toNat ∧ be = x_tl N (N 0 10) (T 10 14) 60)) → b_wp (F_X9_bestWithin_b52 v be u s T) (Sum.elim (fun t : Int × Int × Int × bM => ((0 ≤ t.2.2.1 ∧ t.2.2.1 ≤ i_shl 1 (N 10 0)) ∧ ((∀ c j, c ≠ 158 → c ≠ 10 → t.2.2.2 c j = Q c j) ∧ t.2.2.2 10 9 = Q 10 9 ∧ t.2.2.2 10 0 = N 10 0) ∧ ((t.2.2.1 = 0 ∧ t.1 = -1 ∧ t.2.1 = 0 ∧ ∀ b, 0 ≤ b → b < 30 → t.2.2.2 158 b = 0) ∨ (1 ≤ t.2.2.1 ∧ t.2.2.2 10 14 = x_bf N v (t.2.2.1 - 1).toNat ∧ t.2.2.2 10 15 = x_cs N (t.2.2.2 10 14) (N 10 0).toNat ∧ t.1 = x_tl N (N 0 10) (t.2.2.2 10 14) 60 ∧ t.2.1 = x_cs N (t.2.2.1 - 1) (N 10 0).toNat ∧ ∀ b, 0 ≤ b → b < 30 → t.2.2.2 158 b = x_gn N (t.2.2.1 - 1) b (N 10 0).toNat))) ∧ (i_shl 1 (N 10 0) - t.2.2.1).toNat < (i_shl 1 (N 10 0) - s).toNat) (fun o : Int × bM => o.2 10 14 = x_bf N v (i_shl 1 (N 10 0) - 1).toNat ∧ o.2 10 15 = x_cs N (o.2 10 14) (N 10 0).toNat ∧ o.1 = x_tl N (N 0 10) (o.2 10 14) 60)) := by
    intro T u t1 t2 t3 t4 t5 t6
    have b95 : x_bf N v s.toNat = s → b_wp (F_X9_bestWithin_b95 v u s (x_tl N (N 0 10) s 60) T) (Sum.elim (fun t : Int × Int × Int × bM => ((0 ≤ t.2.2.1 ∧ t.2.2.1 ≤ i_shl 1 (N 10 0)) ∧ ((∀ c j, c ≠ 158 → c ≠ 10 → t.2.2.2 c j = Q c j) ∧ t.2.2.2 10 9 = Q 10 9 ∧ t.2.2.2 10 0 = N 10 0) ∧ ((t.2.2.1 = 0 ∧ t.1 = -1 ∧ t.2.1 = 0 ∧ ∀ b, 0 ≤ b → b < 30 → t.2.2.2 158 b = 0) ∨ (1 ≤ t.2.2.1 ∧ t.2.2.2 10 14 = x_bf N v (t.2.2.1 - 1).toNat ∧ t.2.2.2 10 15 = x_cs N (t.2.2.2 10 14) (N 10 0).toNat ∧ t.1 = x_tl N (N 0 10) (t.2.2.2 10 14) 60 ∧ t.2.1 = x_cs N (t.2.2.1 - 1) (N 10 0).toNat ∧ ∀ b, 0 ≤ b → b < 30 → t.2.2.2 158 b = x_gn N (t.2.2.1 - 1) b (N 10 0).toNat))) ∧ (i_shl 1 (N 10 0) - t.2.2.1).toNat < (i_shl 1 (N 10 0) - s).toNat) (fun o : Int × bM => o.2 10 14 = x_bf N v (i_shl 1 (N 10 0) - 1).toNat ∧ o.2 10 15 = x_cs N (o.2 10 14) (N 10 0).toNat ∧ o.1 = x_tl N (N 0 10) (o.2 10 14) 60)) := by
      intro eb
      unfold F_X9_bestWithin_b95
      have e1 : s + 1 - 1 = s := by omega
      refine b_Wl (b_Wl (b_Wg (by omega) (b_Ws ⟨⟨by dsimp only; omega, ⟨fun c j e1 e2 => ?_, ?_, ?_⟩, Or.inr ⟨by dsimp only; omega, ?_, ?_, ?_, ?_, fun b b0 b1 => ?_⟩⟩, by dsimp only; omega⟩)))
      · dsimp only; rw [b_upc e2, b_upc e2]; exact t1 c j e1 e2
      · dsimp only; rw [b_upi (by decide), b_upi (by decide)]; exact t2
      · dsimp only; rw [b_upi (by decide), b_upi (by decide)]; exact t3
      · dsimp only; rw [b_upi (by decide), b_ups, e1]; exact eb.symm
      · dsimp only; rw [b_ups, b_upi (by decide), b_ups]; exact t5
      · dsimp only; rw [b_upi (by decide), b_ups]
      · dsimp only; rw [e1]; exact t5
      · dsimp only; rw [b_upc (by decide), b_upc (by decide), e1]; exact t4 b b0 b1
    have keep : 1 ≤ s → T 10 14 = x_bf N v (s - 1).toNat → T 10 15 = x_cs N (T 10 14) (N 10 0).toNat → be = x_tl N (N 0 10) (T 10 14) 60 → x_bf N v s.toNat = x_bf N v (s - 1).toNat → ((0 ≤ s + 1 ∧ s + 1 ≤ i_shl 1 (N 10 0)) ∧ ((∀ c j, c ≠ 158 → c ≠ 10 → T c j = Q c j) ∧ T 10 9 = Q 10 9 ∧ T 10 0 = N 10 0) ∧ ((s + 1 = 0 ∧ be = -1 ∧ u = 0 ∧ ∀ b, 0 ≤ b → b < 30 → T 158 b = 0) ∨ (1 ≤ s + 1 ∧ T 10 14 = x_bf N v (s + 1 - 1).toNat ∧ T 10 15 = x_cs N (T 10 14) (N 10 0).toNat ∧ be = x_tl N (N 0 10) (T 10 14) 60 ∧ u = x_cs N (s + 1 - 1) (N 10 0).toNat ∧ ∀ b, 0 ≤ b → b < 30 → T 158 b = x_gn N (s + 1 - 1) b (N 10 0).toNat))) ∧ (i_shl 1 (N 10 0) - (s + 1)).toNat < (i_shl 1 (N 10 0) - s).toNat := by
      intro k1 k2 k3 k4 k5
      rw [show s + 1 - 1 = s by omega]
      exact ⟨⟨by omega, ⟨t1, t2, t3⟩, Or.inr ⟨by omega, by rw [k5]; exact k2, k3, k4, t5, t4⟩⟩, by omega⟩
    have sr := x_tl_r (M := N) (d := N 0 10) (s := s) 60
    unfold F_X9_bestWithin_b52 F_X9_bestWithin_b66
    rcases t6 with ⟨s0, e0⟩ | ⟨s1, e14, e15, ebe⟩
    · have u0 : u = 0 := by rw [t5, s0]; exact x_cs_0 _
      refine b_Wf (by omega) (b_Wb (b_wp_m (fun x k => ?_) (t_count z2 z3 (z4 s) t1 t2 t4)))
      rw [k]
      exact b_Wt (by omega) (b95 (by rw [s0]; rfl))
    · have sb := x_tl_r (M := N) (d := N 0 10) (s := T 10 14) 60
      refine b_Wi (fun a => ?_) (fun a => ?_)
      · exact b_Wf (by omega) (b_Wf (by omega) (b_Wg (by omega) (b_Ws (keep s1 e14 e15 ebe (x_bf_n s1 (fun y => by have := y.1; omega))))))
      · refine b_Wb (b_wp_m (fun x k => ?_) (t_count z2 z3 (z4 s) t1 t2 t4))
        rw [k, e15]
        refine b_Wi (fun b => b95 (x_bf_s s1 ⟨by omega, Or.inl ?_⟩)) (fun b => b_Wi (fun c => b_Wf (by omega) (b_Wi (fun e => b_Wg (by omega) (b_Ws ?_)) (fun e => b95 (x_bf_s s1 ⟨by omega, Or.inr ?_⟩)))) (fun c => b_Wg (by omega) (b_Ws ?_)))
        · rw [← e14]; omega
        · refine keep s1 e14 e15 ebe (x_bf_n s1 (fun y => ?_))
          rw [← e14] at y
          rcases y.2 with y | y
          · omega
          · have := y.2; omega
        · rw [← e14]
          exact ⟨by omega, by omega⟩
        · refine keep s1 e14 e15 ebe (x_bf_n s1 (fun y => ?_))
          rw [← e14] at y
          rcases y.2 with y | y
          · omega
          · have := y.1; omega
  rcases h3 with ⟨s0, e0, e1, e2⟩ | ⟨s1, e14, e15, ebe, esp, e158⟩
  · refine b_Wt (by omega) (fin R sp h2 h9 h0 (fun b b0 b1 => ?_) ?_ (Or.inl ⟨s0, e0⟩))
    · rw [e2 b b0 b1, s0, x_gn_0]
    · rw [e1, s0, x_cs_0]
  · have q10 : ∀ c i, c = 155 ∨ c = 156 ∨ c = 157 → R c i = N c i := fun c i hc => by
      rcases hc with rfl | rfl | rfl
      · rw [h2 155 i (by decide) (by decide), z1 155 i (by simp [b_ins, W_X9_gather])]
      · rw [h2 156 i (by decide) (by decide), z1 156 i (by simp [b_ins, W_X9_gather])]
      · rw [h2 157 i (by decide) (by decide), z1 157 i (by simp [b_ins, W_X9_gather])]
    refine b_Wf (by omega) (b_Wg (by omega) (b_Wb (b_wp_m (fun o k => ?_) (t_turn (N := N) (v := s) hP s1 h0 (fun i => q10 155 i (by simp)) (fun i => q10 156 i (by simp)) (fun i => q10 157 i (by simp)) e158))))
    obtain ⟨m, T⟩ := o
    obtain ⟨k1, k2, k3⟩ := k
    dsimp only at k1 k2 k3
    refine b_Wtwo (b_Wg (by omega) (b_Wl (fin T (sp + m) (fun c j c1 c2 => by rw [k1 c j c1]; exact h2 c j c1 c2) (by rw [k1 10 9 (by decide)]; exact h9) (by rw [k1 10 0 (by decide)]; exact h0) k3 (by omega) (Or.inr ⟨s1, ?_, ?_, ?_⟩))))
    · rw [k1 10 14 (by decide)]; exact e14
    · rw [k1 10 14 (by decide), k1 10 15 (by decide)]; exact e15
    · rw [k1 10 14 (by decide)]; exact ebe
theorem op_next {v : Int} {M : bM} (hC : C_all M) (hD : R_day M) (hcl : R_claim M) (hcr : R_cref M) (hru : R_rul M) (hP : R_place M) (hL : R_look M) : b_wp (F_X11_next v M) (fun o => b_wp (F_X12_next v o.2) (fun o2 => o.1 = o2.1 ∧ C_all o2.2 ∧ R_look o2.2)) := by
  have p1 := hP.1
  have sh := i_p2r (n := M 10 0) (by omega)
  unfold F_X11_next
  by_cases q : 0 ≤ v ∧ v ≤ 1200
  · refine b_Wf (by omega) (b_Wt q.2 (b_Wb (b_wp_m (fun N w => ?_) (t_evC hC hD.2))))
    obtain ⟨y1, y2, y3⟩ := w
    have hQ := Q_of y2 y3 y1 hD hcl hcr hru hP
    have n10 : N 10 0 = M 10 0 := y1 10 0 (by decide)
    have hPN := hQ.2.2.2.2.2.2
    refine b_Wb (b_wp_m (fun o z => ?_) (t_best hQ q))
    obtain ⟨x, P⟩ := o
    obtain ⟨z1, z13, z14, z15, z2⟩ := z
    dsimp only at z1 z13 z14 z15 z2
    refine b_Wtwo (b_Ws ?_)
    dsimp only
    unfold F_X12_next
    have e18 : P 11 118 = N 10 0 := by rw [z1 11 118 (by decide), y1 11 118 (by decide), p1.1, n10]
    rewrite [e18]
    rw [← n10] at sh p1
    refine b_We e_X12_in (b_Wf (by rw [b_01_0]; omega) (b_Wg (by unfold b_i32; omega) (b_Wb (b_wp_m (fun R k => ?_) (t_makeSettled (f := 0) (t := i_shl 1 (N 10 0) - 1) hQ z1 (by decide +kernel) (by decide +kernel) (by decide +kernel) (by omega))))))
    obtain ⟨k1, k2⟩ := k
    have r18 : R 11 118 = N 10 0 := by rw [k1 11 118 (by decide), e18]
    have r10 : R 10 0 = N 10 0 := by rw [k1 10 0 (by decide), z1 10 0 (by decide)]
    have hPR : R_place R := R_place_k (b_kp1 k1 (by decide +kernel)) (R_place_k (b_kp1 z1 (by decide +kernel)) hPN)
    have r155 : R 155 = N 155 := funext fun i => by rw [k1 155 i (by simp [b_ins, W_X12_makeSettled]), z1 155 i (by simp [b_ins, W_X9_bestWithin])]
    have cost : ∀ (T : bM) (s : Int), R_place T → T 155 = N 155 → T 10 0 = N 10 0 → F_X12_costOf s T = some (x_cs N s (N 10 0).toNat) := fun T s h1 h2 h3 => by
      refine b_eqn (b_wp_m (fun x y => ?_) (t_costOf (s := s) h1))
      rw [y, h3]
      exact x_cs_c h2 _
    refine b_Wb (b_wp_m (fun o g => ?_) (b_loop_ind (P := fun o : Int => o = x_bf N v (i_shl 1 (N 10 0) - 1).toNat) (I := fun t : Int × Int => (1 ≤ t.2 ∧ t.2 ≤ i_shl 1 (N 10 0)) ∧ t.1 = x_bf N v (t.2 - 1).toNat) (fun t => (i_shl 1 (N 10 0) - t.2).toNat) ?_ (0, 1) ⟨by dsimp only; omega, rfl⟩))
    · have br := x_bf_r (M := N) (v := v) (i_shl 1 (N 10 0) - 1).toNat
      have fu : b_fr [(11, some 122)] R (b_up R 11 122 o) := b_frF b_fr_refl (by decide)
      have cu := cost (b_up R 11 122 o) o (R_place_k (b_kp1 fu (by decide +kernel)) hPR) (by rw [← r155]; exact funext fun i => b_upc (by decide)) (by rw [b_upc (by decide), r10])
      unfold F_X12_next_b102
      have cc : C_all (b_up (b_up R 11 122 o) 11 123 (x_cs N o (N 10 0).toNat)) := by
        refine C_k (W := [(11, some 122), (11, some 123)]) (b_frF (b_frF b_fr_refl (by decide)) (by decide)) (by decide +kernel) (C_k k1 (by decide +kernel) (C_k z1 (by decide +kernel) y2))
      refine b_Wl (b_We cu (b_Wl (b_Wg (by omega) (b_Ws ⟨?_, cc, Or.inr ⟨?_, ?_, ?_⟩⟩))))
      · dsimp only
        rw [b_upc (by decide), b_upc (by decide), k2 o (by omega) (by omega), z2, z14, g]
      · dsimp only
        rw [b_upc (by decide), b_upc (by decide), k1 10 13 (by decide), z13]
      · dsimp only
        rw [b_upi (by decide), b_ups, b_upc (by decide), b_upc (by decide), k1 10 14 (by decide), z14, g]
      · dsimp only
        rw [b_ups, b_upc (by decide), b_upc (by decide), k1 10 15 (by decide), z15, z14, g]
    intro ⟨be, s⟩ ⟨h1, h2⟩
    dsimp only at h1 h2 ⊢
    have br := x_bf_r (M := N) (v := v) (s - 1).toNat
    unfold F_X12_next_s31
    rw [r18]
    refine b_Wi (fun a => b_Ws ?_) (fun a => b_We (cost R s hPR r155 r10) ?_)
    · have e : s = i_shl 1 (N 10 0) := by omega
      rw [← e]; exact h2
    have es := k2 s (by omega) (by omega)
    have eb := k2 be (by omega) (by omega)
    have e1 : s + 1 - 1 = s := by omega
    have put : x_bf N v s.toNat = s → ((1 ≤ s + 1 ∧ s + 1 ≤ i_shl 1 (N 10 0)) ∧ s = x_bf N v (s + 1 - 1).toNat) ∧ (i_shl 1 (N 10 0) - (s + 1)).toNat < (i_shl 1 (N 10 0) - s).toNat := fun z => ⟨⟨by omega, by rw [e1, z]⟩, by omega⟩
    have skip : x_bf N v s.toNat = x_bf N v (s - 1).toNat → ((1 ≤ s + 1 ∧ s + 1 ≤ i_shl 1 (N 10 0)) ∧ be = x_bf N v (s + 1 - 1).toNat) ∧ (i_shl 1 (N 10 0) - (s + 1)).toNat < (i_shl 1 (N 10 0) - s).toNat := fun z => ⟨⟨by omega, by rw [e1, z]; exact h2⟩, by omega⟩
    rw [es, eb]
    refine b_Wi (fun b => b_Wg (by omega) (b_Ws (skip (x_bf_n h1.1 (fun y => by have := y.1; omega))))) (fun b => b_Wg (by omega) (b_Wi (fun c => b_Wg (by omega) (b_Ws (put (x_bf_s h1.1 ⟨by omega, Or.inl (by rw [← h2]; exact c)⟩)))) (fun c => b_Wg (by omega) (b_Wi (fun e => b_We (cost R be hPR r155 r10) (b_Wi (fun f => b_Wg (by omega) (b_Ws (skip (x_bf_n h1.1 (fun y => ?_))))) (fun f => b_Wg (by omega) (b_Ws (put (x_bf_s h1.1 ⟨by omega, Or.inr ⟨by rw [← h2]; exact e, by rw [← h2]; omega⟩⟩)))))) (fun e => b_Wg (by omega) (b_Ws (skip (x_bf_n h1.1 (fun y => ?_)))))))))
    · rw [← h2] at y
      rcases y.2 with y | y
      · exact c y
      · have := y.2; omega
    · rw [← h2] at y
      rcases y.2 with y | y
      · exact c y
      · exact e y.1
  · have out : b_wp (F_X12_next v M) (fun o2 => (-2 : Int) = o2.1 ∧ C_all o2.2 ∧ R_look o2.2) := by
      unfold F_X12_next
      exact b_We e_X12_in (b_Wt (by rw [b_01_0]; omega) (b_Ws ⟨rfl, hC, hL⟩))
    exact b_Wi (fun _ => b_Ws out) (fun _ => b_Wf (by omega) (b_Ws out))
