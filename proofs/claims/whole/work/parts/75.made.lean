theorem x_fin_p {M : bM} {d b w v p q : Int} (h : x_fin M d b w v p q) : (v = -1 → p = 0) ∧ 0 ≤ p := by
  obtain ⟨mx, m0, _, _, h⟩ := h
  rcases h with ⟨_, h1, h2, h3⟩ | ⟨_, _, h1, h2, h3⟩ | ⟨_, t, _, ⟨k, g, _, _, e⟩, _, h2, h3⟩
  · omega
  · omega
  · refine ⟨fun z => ?_, by omega⟩
    exfalso
    exact x_gd_n (by rw [← e]; exact z) g
/-- the facts of a BURNT one, as the reference keeps them -/
def Of (M : bM) (d b : Int) (N : bM) : Prop := ∃ v0 p0 q0 v1 p1 q1 v2 p2 q2, x_fin M d b 0 v0 p0 q0 ∧ x_fin M d b 1 v1 p1 q1 ∧ x_fin M d b 2 v2 p2 q2 ∧ N 209 (3 * b) = v0 ∧ N 209 (3 * b + 1) = v1 ∧ N 209 (3 * b + 2) = v2 ∧ N 210 (3 * b) = p0 ∧ N 210 (3 * b + 1) = p1 ∧ N 210 (3 * b + 2) = p2 ∧ N 211 b = (if (x_sp M d b).2 < (x_sp M d b).1 then 0 else (x_sp M d b).1) ∧ N 212 b = (if (x_sp M d b).2 < (x_sp M d b).1 then 9999 else (x_sp M d b).2) ∧ N 213 b = (if (x_sp M d b).2 < (x_sp M d b).1 then i_or (x_qb (x_qb (x_qb 0 0 q0) 1 q1) 2 q2) 8 else x_qb (x_qb (x_qb 0 0 q0) 1 q1) 2 q2)
theorem sp_Of {M N P : bM} (h : SS M N) {d b : Int} (hf : Of M d b P) : Of N d b P := by
  obtain ⟨v0, p0, q0, v1, p1, q1, v2, p2, q2, f0, f1, f2, r⟩ := hf
  refine ⟨v0, p0, q0, v1, p1, q1, v2, p2, q2, sp_fin h f0, sp_fin h f1, sp_fin h f2, ?_⟩
  rw [sp_sp h]
  exact r
theorem E_X12_greater {a z : Int} {M : bM} : F_X12_greater a z M = some (max a z) := by
  refine b_eqn ?_
  unfold F_X12_greater
  (repeat' first | with_reducible refine b_Wg (by omega) ?_ | with_reducible refine b_Wi (fun _ => ?_) (fun _ => ?_) | with_reducible refine b_Wl ?_ | with_reducible refine b_Ws ?_)
  all_goals (try dsimp only)
  all_goals omega
theorem E_X12_lesser {a z : Int} {M : bM} : F_X12_lesser a z M = some (min a z) := by
  refine b_eqn ?_
  unfold F_X12_lesser
  (repeat' first | with_reducible refine b_Wg (by omega) ?_ | with_reducible refine b_Wi (fun _ => ?_) (fun _ => ?_) | with_reducible refine b_Wl ?_ | with_reducible refine b_Ws ?_)
  all_goals (try dsimp only)
  all_goals omega
theorem t_msp {M N : bM} {d b v : Int} (hB : O_b M d) (hN : O_n M N) (hb : 0 ≤ b ∧ b < 30) (h0 : N 211 b = 0 ∧ N 212 b = 9999) : b_wp (b_loop (fun t : Int × bM => F_X12_makeShown_s118 v b t.1 t.2) (0, N)) (fun P => (∀ c j, c ≠ 211 → c ≠ 212 → P c j = N c j) ∧ (∀ j, j ≠ b → P 211 j = N 211 j ∧ P 212 j = N 212 j) ∧ (P 211 b, P 212 b) = x_sp M d b) := by
  have s1 := hB.2.2.1.1
  refine b_loop_ind (I := fun t : Int × bM => (0 ≤ t.1 ∧ t.1 ≤ M 11 53) ∧ (∀ c j, c ≠ 211 → c ≠ 212 → t.2 c j = N c j) ∧ (∀ j, j ≠ b → t.2 211 j = N 211 j ∧ t.2 212 j = N 212 j) ∧ (t.2 211 b, t.2 212 b) = x_spf M d b t.1.toNat) (fun t => (M 11 53 - t.1).toNat) ?_ (0, N) ⟨by dsimp only; omega, fun _ _ _ _ => rfl, fun _ _ => ⟨rfl, rfl⟩, by dsimp only; rw [h0.1, h0.2]; rfl⟩
  intro ⟨k, P⟩ ⟨h1, h2, h3, h4⟩
  dsimp only at h1 h2 h3 h4 ⊢
  have g : ∀ c j, c ≠ 209 → c ≠ 210 → c ≠ 211 → c ≠ 212 → c ≠ 213 → c ≠ 216 → P c j = M c j := fun c j c1 c2 c3 c4 c5 c6 => by rw [h2 c j c3 c4]; exact hN c j c1 c2 c3 c4 c5 c6
  unfold F_X12_makeShown_s118
  rw [g 11 53 (by decide) (by decide) (by decide) (by decide) (by decide) (by decide), g 214 k (by decide) (by decide) (by decide) (by decide) (by decide) (by decide), g 195 k (by decide) (by decide) (by decide) (by decide) (by decide) (by decide), g 215 k (by decide) (by decide) (by decide) (by decide) (by decide) (by decide), g 197 k (by decide) (by decide) (by decide) (by decide) (by decide) (by decide)]
  by_cases q : M 11 53 ≤ k
  · refine b_Wt q (b_Ws ⟨h2, h3, ?_⟩)
    rw [h4, show k = M 11 53 by omega]
    rfl
  · have bk := hB.2.2.2.2.2 k h1.1 (by omega)
    have e1 : x_spf M d b (k + 1).toNat = x_sps M d b k (P 211 b, P 212 b) := by rw [h4]; exact z_fold_s h1.1
    have skip : ¬ (x_W M d b k ∧ 0 < x_wt M (x_act M d) k) → ((0 ≤ k + 1 ∧ k + 1 ≤ M 11 53) ∧ (∀ c j, c ≠ 211 → c ≠ 212 → P c j = N c j) ∧ (∀ j, j ≠ b → P 211 j = N 211 j ∧ P 212 j = N 212 j) ∧ (P 211 b, P 212 b) = x_spf M d b (k + 1).toNat) ∧ (M 11 53 - (k + 1)).toNat < (M 11 53 - k).toNat := by
      intro z
      refine ⟨⟨by omega, h2, h3, ?_⟩, by omega⟩
      rw [e1]
      unfold x_sps
      rw [if_neg z]
    refine b_Wf q (b_Wg (by omega) (b_Wi (fun q1 => b_Wg (by omega) (b_Ws (skip (fun z => by have := bk.2.1.mpr z.1.1; omega)))) (fun q1 => b_Wg (by omega) (b_Wi (fun q2 => b_Wg (by omega) (b_Wi (fun q3 => ?_) (fun q3 => b_Wg (by omega) (b_Ws (skip (fun z => by rw [bk.2.2.1] at q3; omega)))))) (fun q2 => b_Wg (by omega) (b_Ws (skip (fun z => q2 z.1.2))))))))
    refine b_Wg (by omega) (b_We E_X12_greater (b_Wg (by omega) (b_Wl (b_Wg (by omega) ?_))))
    rw [b_upc (by decide), b_upc (by decide), g 198 k (by decide) (by decide) (by decide) (by decide) (by decide) (by decide)]
    refine b_We E_X12_lesser (b_Wg (by omega) (b_Wl (b_Wg (by omega) (b_Ws ⟨⟨by dsimp only; omega, fun c j c1 c2 => ?_, fun j hj => ?_, ?_⟩, by dsimp only; omega⟩))))
    · dsimp only
      rw [b_upc c2, b_upc c1]; exact h2 c j c1 c2
    · dsimp only
      rw [b_upc (by decide), b_upi hj, b_upi hj, b_upc (by decide)]; exact h3 j hj
    · dsimp only
      rw [b_upc (by decide), b_ups, b_ups, e1]
      unfold x_sps
      rw [if_pos ⟨⟨bk.2.1.mp (by omega), q2⟩, by rw [← bk.2.2.1]; exact q3⟩]
theorem t_made1 {M N : bM} {d b : Int} (hB : O_b M d) (hN : O_n M N) (hb : 0 ≤ b ∧ b < 30) (hl : b < N 11 52) : b_wp (F_X12_makeShown_s65 d b N) (fun r => ∃ P, r = Sum.inl (b + 1, P) ∧ O_n M P ∧ Of M d b P ∧ (∀ j, (j < 3 * b ∨ 3 * b + 2 < j) → P 209 j = N 209 j ∧ P 210 j = N 210 j) ∧ ∀ j, j ≠ b → P 211 j = N 211 j ∧ P 212 j = N 212 j ∧ P 213 j = N 213 j) := by
  unfold F_X12_makeShown_s65
  refine b_Wf (by omega) (b_Wg (by omega) (b_Wl (b_Wb ?_)))
  generalize hN2 : b_up N 213 b 0 = N2
  have f2 : ∀ c j, c ≠ 213 → N2 c j = N c j := fun c j hc => by subst hN2; exact b_upc hc
  have g2 : N2 213 = z_up (N 213) b 0 := by subst hN2; exact b_up_z
  have t2 : O_n M N2 := fun c j c1 c2 c3 c4 c5 c6 => by rw [f2 c j c5]; exact hN c j c1 c2 c3 c4 c5 c6
  refine b_Wloop ?_
  dsimp only
  unfold F_X12_makeShown_s82
  refine b_Wf (by omega) (b_Wb (b_wp_m (fun R1 z1 => ?_) (t_show hB t2 hb (show (0 : Int) ≤ 0 ∧ (0 : Int) < 3 by omega))))
  obtain ⟨r1, v0, p0, q0, s1, a1, c1, d1⟩ := z1
  have t3 : O_n M R1 := fun c j c1 c2 c3 c4 c5 c6 => by rw [r1 c j c1 c2 c5 c6]; exact t2 c j c1 c2 c3 c4 c5 c6
  refine b_Wg (by omega) (b_Ws ?_)
  show b_wp _ _
  refine b_Wloop ?_
  dsimp only
  refine b_Wf (by omega) (b_Wb (b_wp_m (fun R2 z2 => ?_) (t_show hB t3 hb (show (0 : Int) ≤ 0 + 1 ∧ (0 : Int) + 1 < 3 by omega))))
  obtain ⟨r2, v1, p1, q1, s2, a2, c2, d2⟩ := z2
  have t4 : O_n M R2 := fun c j c1 c2 c3 c4 c5 c6 => by rw [r2 c j c1 c2 c5 c6]; exact t3 c j c1 c2 c3 c4 c5 c6
  refine b_Wg (by omega) (b_Ws ?_)
  show b_wp _ _
  refine b_Wloop ?_
  dsimp only
  refine b_Wf (by omega) (b_Wb (b_wp_m (fun R3 z3 => ?_) (t_show hB t4 hb (show (0 : Int) ≤ 0 + 1 + 1 ∧ (0 : Int) + 1 + 1 < 3 by omega))))
  obtain ⟨r3, v2, p2, q2, s3, a3, c3, d3⟩ := z3
  have t5 : O_n M R3 := fun c j c1 c2 c3 c4 c5 c6 => by rw [r3 c j c1 c2 c5 c6]; exact t4 c j c1 c2 c3 c4 c5 c6
  refine b_Wg (by omega) (b_Ws ?_)
  show b_wp _ _
  refine b_Wloop ?_
  dsimp only
  refine b_Wt (by omega) (b_Ws ?_)
  rw [a2, a1] at a3
  rw [c2, c1] at c3
  have e213 : R3 213 b = x_qb (x_qb (x_qb 0 0 q0) 1 q1) 2 q2 := by
    rw [d3, d2, d1, g2]
    simp [z_up]
  have e213o : ∀ j, j ≠ b → R3 213 j = N 213 j := by
    intro j hj
    rw [d3, d2, d1, g2]
    simp [z_up, hj]
  have n209 : N2 209 = N 209 := funext fun j => f2 209 j (by decide)
  have n210 : N2 210 = N 210 := funext fun j => f2 210 j (by decide)
  rw [n209] at a3
  rw [n210] at c3
  have o211 : ∀ j, R3 211 j = N 211 j ∧ R3 212 j = N 212 j := by
    intro j
    rw [r3 211 j (by decide) (by decide) (by decide) (by decide), r2 211 j (by decide) (by decide) (by decide) (by decide), r1 211 j (by decide) (by decide) (by decide) (by decide), f2 211 j (by decide), r3 212 j (by decide) (by decide) (by decide) (by decide), r2 212 j (by decide) (by decide) (by decide) (by decide), r1 212 j (by decide) (by decide) (by decide) (by decide), f2 212 j (by decide)]
    exact ⟨rfl, rfl⟩
  unfold F_X12_makeShown_b100
  refine b_Wg (by omega) (b_Wl (b_Wg (by omega) (b_Wl (b_Wb ?_))))
  generalize hR4 : b_up (b_up R3 211 b 0) 212 b 9999 = R4
  have f4 : ∀ c j, c ≠ 211 → c ≠ 212 → R4 c j = R3 c j := fun c j c1 c2 => by subst hR4; rw [b_upc c2, b_upc c1]
  have t6 : O_n M R4 := fun c j c1 c2 c3 c4 c5 c6 => by rw [f4 c j c3 c4]; exact t5 c j c1 c2 c3 c4 c5 c6
  refine b_wp_m (fun R5 y => ?_) (t_msp (v := d) hB t6 hb (by subst hR4; rw [b_upc (by decide), b_ups, b_ups]; exact ⟨rfl, rfl⟩))
  obtain ⟨y1, y2, y3⟩ := y
  have o2 : ∀ j, j ≠ b → R5 211 j = N 211 j ∧ R5 212 j = N 212 j := by
    intro j hj
    rw [(y2 j hj).1, (y2 j hj).2]
    subst hR4
    rw [b_upc (by decide), b_upi hj, b_upi hj, b_upc (by decide)]
    exact o211 j
  have x1 : R5 211 b = (x_sp M d b).1 := congrArg Prod.fst y3
  have x2 : R5 212 b = (x_sp M d b).2 := congrArg Prod.snd y3
  have h209 : R5 209 = R3 209 := funext fun j => by rw [y1 209 j (by decide) (by decide), f4 209 j (by decide) (by decide)]
  have h210 : R5 210 = R3 210 := funext fun j => by rw [y1 210 j (by decide) (by decide), f4 210 j (by decide) (by decide)]
  have h213 : R5 213 = R3 213 := funext fun j => by rw [y1 213 j (by decide) (by decide), f4 213 j (by decide) (by decide)]
  have t7 : O_n M R5 := fun c j c1 c2 c3 c4 c5 c6 => by rw [y1 c j c3 c4]; exact t6 c j c1 c2 c3 c4 c5 c6
  have w209 : R3 209 (3 * b) = v0 ∧ R3 209 (3 * b + 1) = v1 ∧ R3 209 (3 * b + 2) = v2 := by
    rw [a3]
    unfold z_up
    refine ⟨?_, ?_, ?_⟩
    · rw [if_neg (by omega), if_neg (by omega), if_pos (by omega)]
    · rw [if_neg (by omega), if_pos (by omega)]
    · rw [if_pos (by omega)]
  have w210 : R3 210 (3 * b) = p0 ∧ R3 210 (3 * b + 1) = p1 ∧ R3 210 (3 * b + 2) = p2 := by
    rw [c3]
    unfold z_up
    refine ⟨?_, ?_, ?_⟩
    · rw [if_neg (by omega), if_neg (by omega), if_pos (by omega)]
    · rw [if_neg (by omega), if_pos (by omega)]
    · rw [if_pos (by omega)]
  have wo : ∀ j, (j < 3 * b ∨ 3 * b + 2 < j) → R3 209 j = N 209 j ∧ R3 210 j = N 210 j := by
    intro j hj
    rw [a3, c3]
    unfold z_up
    rw [if_neg (by omega), if_neg (by omega), if_neg (by omega), if_neg (by omega), if_neg (by omega), if_neg (by omega)]
    exact ⟨rfl, rfl⟩
  unfold F_X12_makeShown_b205
  rw [x1, x2]
  refine b_Wg (by omega) (b_Wi (fun q => b_Wg (by omega) (b_Wl (b_Wg (by omega) (b_Wl (b_Wg (by omega) (b_Wl (b_Wg (by omega) (b_Ws ⟨_, rfl, fun c j c1 c2 c3 c4 c5 c6 => ?_, ?_, fun j hj => ?_, fun j hj => ?_⟩)))))))) (fun q => b_Wg (by omega) (b_Ws ⟨_, rfl, t7, ?_, fun j hj => ?_, fun j hj => ?_⟩)))
  · rw [b_upc c5, b_upc c4, b_upc c3]; exact t7 c j c1 c2 c3 c4 c5 c6
  · refine ⟨v0, p0, q0, v1, p1, q1, v2, p2, q2, s1, s2, s3, ?_, ?_, ?_, ?_, ?_, ?_, ?_, ?_, ?_⟩
    · rw [b_upc (by decide), b_upc (by decide), b_upc (by decide), h209]; exact w209.1
    · rw [b_upc (by decide), b_upc (by decide), b_upc (by decide), h209]; exact w209.2.1
    · rw [b_upc (by decide), b_upc (by decide), b_upc (by decide), h209]; exact w209.2.2
    · rw [b_upc (by decide), b_upc (by decide), b_upc (by decide), h210]; exact w210.1
    · rw [b_upc (by decide), b_upc (by decide), b_upc (by decide), h210]; exact w210.2.1
    · rw [b_upc (by decide), b_upc (by decide), b_upc (by decide), h210]; exact w210.2.2
    · rw [b_upc (by decide), b_upc (by decide), b_ups, if_pos q]
    · rw [b_upc (by decide), b_ups, if_pos q]
    · rw [b_ups, b_upc (by decide), b_upc (by decide), h213, e213, if_pos q]
  · rw [b_upc (by decide), b_upc (by decide), b_upc (by decide), b_upc (by decide), b_upc (by decide), b_upc (by decide), h209, h210]; exact wo j hj
  · rw [b_upc (by decide), b_upc (by decide), b_upi hj, b_upc (by decide), b_upi hj, b_upc (by decide), b_upi hj, b_upc (by decide), b_upc (by decide), h213]
    exact ⟨(o2 j hj).1, (o2 j hj).2, e213o j hj⟩
  · refine ⟨v0, p0, q0, v1, p1, q1, v2, p2, q2, s1, s2, s3, ?_, ?_, ?_, ?_, ?_, ?_, ?_, ?_, ?_⟩
    · rw [h209]; exact w209.1
    · rw [h209]; exact w209.2.1
    · rw [h209]; exact w209.2.2
    · rw [h210]; exact w210.1
    · rw [h210]; exact w210.2.1
    · rw [h210]; exact w210.2.2
    · rw [if_neg q]; exact x1
    · rw [if_neg q]; exact x2
    · rw [h213, e213, if_neg q]
  · rw [h209, h210]; exact wo j hj
  · rw [h213]; exact ⟨(o2 j hj).1, (o2 j hj).2, e213o j hj⟩
theorem t_made2 {M : bM} {d : Int} (hB : O_b M d) (h6 : 0 ≤ M 11 52 ∧ M 11 52 ≤ 30) : b_wp (F_X12_makeShown_b63 d M) (fun N => O_n M N ∧ ∀ b, 0 ≤ b → b < M 11 52 → Of M d b N) := by
  unfold F_X12_makeShown_b63 F_X12_makeShown_b256
  refine b_Wb (b_loop_ind (I := fun t : Int × bM => (0 ≤ t.1 ∧ t.1 ≤ M 11 52) ∧ O_n M t.2 ∧ ∀ b, 0 ≤ b → b < t.1 → Of M d b t.2) (fun t => (M 11 52 - t.1).toNat) ?_ (0, M) ⟨by dsimp only; omega, fun _ _ _ _ _ _ _ _ => rfl, fun b b0 b1 => by dsimp only at b1; omega⟩)
  intro ⟨b, N⟩ ⟨h1, h2, h4⟩
  dsimp only at h1 h2 h4 ⊢
  have n60 := h2 11 52 (by decide) (by decide) (by decide) (by decide) (by decide) (by decide)
  by_cases q : M 11 52 ≤ b
  · unfold F_X12_makeShown_s65
    exact b_Wt (by omega) (b_Ws (b_Ws ⟨h2, fun b' b0 b1 => h4 b' b0 (by omega)⟩))
  · refine b_wp_m (fun r y => ?_) (t_made1 hB h2 (b := b) (by omega) (by omega))
    obtain ⟨P, rfl, y1, y2, y3, y4⟩ := y
    refine ⟨⟨by dsimp only; omega, y1, fun b' b0 b1 => ?_⟩, by dsimp only; omega⟩
    dsimp only at b1 ⊢
    by_cases qb : b' = b
    · subst qb; exact y2
    · obtain ⟨v0, p0, q0, v1, p1, q1, v2, p2, q2, f0, f1, f2, f3⟩ := h4 b' b0 (by omega)
      refine ⟨v0, p0, q0, v1, p1, q1, v2, p2, q2, f0, f1, f2, ?_⟩
      rw [(y3 (3 * b') (by omega)).1, (y3 (3 * b' + 1) (by omega)).1, (y3 (3 * b' + 2) (by omega)).1, (y3 (3 * b') (by omega)).2, (y3 (3 * b' + 1) (by omega)).2, (y3 (3 * b' + 2) (by omega)).2, (y4 b' qb).1, (y4 b' qb).2.1, (y4 b' qb).2.2]
      exact f3
