/-- the class reads lines -/
theorem t_readLines {M : bM} (hT : R_tape M) (hw : R_ways M) : b_wp (F_X5_readLines_1 M) (fun o => b_fr W_X5_readLines_1 M o.2 ∧ Bo (cb M) o.1 (o.2 1 5) (o.2 1 6) ∧ ∀ j : Nat, (j : Int) < o.1 → o.2 98 j = 100000 * z_way (vT (cb M) (3 * j)) + vT (cb M) (3 * j + 1)) := by
  refine b_wl_wp (w_X5_readLines_1 b_fr_refl) ?_
  unfold F_X5_readLines_1 F_X10_begin
  refine b_Wb (b_Wl (b_Wl ?_))
  generalize hU : b_up (b_up M 1 5 0) 1 6 (-1) = U
  have fU : b_fr [(1, some 5), (1, some 6)] M U := by subst hU; exact b_frF (b_frF b_fr_refl (by decide)) (by decide)
  have u5 : U 1 5 = 0 ∧ U 1 6 = -1 := by subst hU; exact ⟨by rw [b_upi (by decide), b_ups], b_ups⟩
  clear hU
  have hTU : R_tape U := R_tape_k (b_kp1 fU (by decide)) hT
  have ec : cb U = cb M := by
    unfold cb
    rw [fU 1 1 (by decide), show U 72 = M 72 from funext fun i => fU 72 i (by simp [b_ins])]
  have hB := cb_B hT
  refine b_Wb (b_wp_m (fun N y => b_Ws ?_) (t_rewind hTU))
  obtain ⟨y1, y2, y3⟩ := y
  rw [ec, fU 1 1 (by decide)] at y2
  rw [ec] at y3
  generalize cb M = c at *
  generalize hn : M 1 1 = n at *
  refine b_Wb (b_wp_m (fun o z => ?_) (b_loop_ind (P := Sum.elim (fun _ : bM => False) (fun o : Int × bM => Bo c o.1 (o.2 1 5) (o.2 1 6) ∧ ∀ j : Nat, (j : Int) < o.1 → o.2 98 j = 100000 * z_way (vT c (3 * j)) + vT c (3 * j + 1))) (I := fun t : Int × bM => ∃ m : Nat, t.1 = m ∧ m ≤ 12 ∧ Cr c n t.2 ∧ Cs c t.2 (3 * m) ∧ R_ways t.2 ∧ (t.2 1 5 = 0 ∧ t.2 1 6 = -1) ∧ (∀ j, j < m → Bl c j) ∧ ∀ j : Nat, j < m → t.2 98 j = 100000 * z_way (vT c (3 * j)) + vT c (3 * j + 1)) (fun t => (13 - t.1).toNat) ?_ (0, N) ⟨0, rfl, by decide, y2, y3, R_ways_k (b_kp1 y1 (by decide)) (R_ways_k (b_kp1 fU (by decide)) hw), by dsimp only; rw [y1 1 5 (by decide), y1 1 6 (by decide)]; exact u5, fun j hj => by omega, fun j hj => by omega⟩))
  · rcases o with N2 | o
    · exact z.elim
    · exact b_Ws z
  intro ⟨v, Q⟩ ⟨m, h1, h2, h3, h4, h5, h6, h7, h8⟩
  dsimp only at h1 h3 h4 h5 h6 h8 ⊢
  unfold F_X5_readLines_1_s6
  have k0 : Q 1 2 = kT c (3 * m) := h4.2.1
  have b25 : ¬ (0 < m ∧ kT c (3 * m) = 0) → b_wp (F_X5_readLines_1_b25 v Q) (Sum.elim (fun t : Int × bM => (∃ m : Nat, t.1 = m ∧ m ≤ 12 ∧ Cr c n t.2 ∧ Cs c t.2 (3 * m) ∧ R_ways t.2 ∧ (t.2 1 5 = 0 ∧ t.2 1 6 = -1) ∧ (∀ j, j < m → Bl c j) ∧ ∀ j : Nat, j < m → t.2 98 j = 100000 * z_way (vT c (3 * j)) + vT c (3 * j + 1)) ∧ (13 - t.1).toNat < (13 - v).toNat) (Sum.elim (fun _ : bM => False) (fun o : Int × bM => Bo c o.1 (o.2 1 5) (o.2 1 6) ∧ ∀ j : Nat, (j : Int) < o.1 → o.2 98 j = 100000 * z_way (vT c (3 * j)) + vT c (3 * j + 1)))) := by
    intro ne
    unfold F_X5_readLines_1_b25
    refine b_Wb (b_wp_m (fun o z => ?_) (t_readLine hB h3 h4 h5 h1 h2))
    obtain ⟨x, P⟩ := o
    dsimp only at z
    rcases z with ⟨z1, z2⟩ | ⟨z1, z2, z3, z4, z5, z6, z7⟩
    · exact b_Wtwo (b_Wt z1 (b_Ws ⟨⟨m, h2, h7, Or.inr ⟨ne, rfl, z2⟩⟩, fun j hj => by dsimp only at hj; omega⟩))
    · refine b_Wtwo (b_Wf (by dsimp only; omega) (b_Wb (b_wp_m (fun R x => ?_) (t_stepN hB z5 z6 (by omega)))))
      obtain ⟨x1, x2, x3⟩ := x
      dsimp only at x1
      refine b_Wg (by omega) (b_Ws ⟨⟨m + 1, by dsimp only; omega, by omega, x2, x3, ?_, ?_, fun j hj => ?_, fun j hj => ?_⟩, by dsimp only; omega⟩)
      · exact R_ways_k (b_kp1 x1 (by decide)) (R_ways_k (b_kp1 z4 (by decide)) h5)
      · dsimp only
        rw [x1 1 5 (by decide), x1 1 6 (by decide), z4 1 5 (by decide), z4 1 6 (by decide)]
        exact h6
      · by_cases e : j = m
        · rw [e]; exact z3
        · exact h7 j (by omega)
      · dsimp only
        rw [x1 98 j (by simp [b_ins, W_st]), z7]
        by_cases e : (j : Int) = v
        · rw [if_pos e, show j = m by omega]
        · rw [if_neg e]; exact h8 j (by omega)
  refine b_Wf (by omega) ?_
  rw [k0]
  refine b_Wi (fun a => b_Wi (fun b => b25 (fun z => by have := z.1; omega)) (fun b => b_Ws ⟨⟨m, h2, h7, Or.inl ⟨by omega, a, h1, h6.1, h6.2⟩⟩, fun j hj => h8 j (by dsimp only at hj; omega)⟩)) (fun a => b25 (fun z => a z.2))
theorem k_ways : kW 25 = 14 ∧ kW 26 = 5 ∧ kW 27 = 19 ∧ kW 28 = 23 := by decide +kernel
theorem k_inj : ∀ i, i < 29 → ∀ j, j < 29 → kW i = kW j → i = j := by decide +kernel
theorem ky_way {v x : Int} (h : Ky v x) : (-1 ≤ x ∧ x < 29) ∧ (25 ≤ x ↔ z_way v < 4) ∧ (25 ≤ x → x - 25 = z_way v) := by
  obtain ⟨w0, w1, w2, w3⟩ := k_ways
  have wv : z_way 14 = 0 ∧ z_way 5 = 1 ∧ z_way 19 = 2 ∧ z_way 23 = 3 := by decide
  rcases h with ⟨h1, h2⟩ | ⟨i, h1, h2, h3⟩
  · refine ⟨by omega, ⟨fun z => by omega, fun z => ?_⟩, fun z => by omega⟩
    exfalso
    unfold z_way at z
    rw [if_neg (fun e => h2 25 (by decide) (by rw [w0]; exact e.symm)), if_neg (fun e => h2 26 (by decide) (by rw [w1]; exact e.symm)), if_neg (fun e => h2 27 (by decide) (by rw [w2]; exact e.symm)), if_neg (fun e => h2 28 (by decide) (by rw [w3]; exact e.symm))] at z
    exact absurd z (by decide)
  · have lt : i < 25 → ¬ z_way v < 4 := by
      intro hi z
      unfold z_way at z
      have ne : ∀ j, 25 ≤ j → j < 29 → v ≠ kW j := fun j j1 j2 e => by
        have := k_inj i h1 j j2 (h3.trans e)
        omega
      rw [if_neg (fun e => ne 25 (by decide) (by decide) (e.trans w0.symm)), if_neg (fun e => ne 26 (by decide) (by decide) (e.trans w1.symm)), if_neg (fun e => ne 27 (by decide) (by decide) (e.trans w2.symm)), if_neg (fun e => ne 28 (by decide) (by decide) (e.trans w3.symm))] at z
      exact absurd z (by decide)
    by_cases hi : i < 25
    · exact ⟨by omega, ⟨fun z => by omega, fun z => absurd z (lt hi)⟩, fun z => by omega⟩
    · have : i = 25 ∨ i = 26 ∨ i = 27 ∨ i = 28 := by omega
      rcases this with e | e | e | e
      · rw [e] at h3 h2
        rw [← h3, w0, wv.1]; exact ⟨by omega, ⟨fun _ => by decide, fun _ => by omega⟩, fun _ => by omega⟩
      · rw [e] at h3 h2
        rw [← h3, w1, wv.2.1]; exact ⟨by omega, ⟨fun _ => by decide, fun _ => by omega⟩, fun _ => by omega⟩
      · rw [e] at h3 h2
        rw [← h3, w2, wv.2.2.1]; exact ⟨by omega, ⟨fun _ => by decide, fun _ => by omega⟩, fun _ => by omega⟩
      · rw [e] at h3 h2
        rw [← h3, w3, wv.2.2.2]; exact ⟨by omega, ⟨fun _ => by decide, fun _ => by omega⟩, fun _ => by omega⟩
