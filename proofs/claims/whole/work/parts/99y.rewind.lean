theorem kp_c {M : bM} {k q v : Int} : (∀ z j, z ≠ 73 → z ≠ 74 → z ≠ 75 → ¬ (z = 1 ∧ j = 8) → kp M k q v z j = M z j) ∧ kp M k q v 1 8 = M 1 8 + 1 ∧ (∀ j, kp M k q v 73 j = if j = M 1 8 then k else M 73 j) ∧ (∀ j, kp M k q v 74 j = if j = M 1 8 then q else M 74 j) ∧ ∀ j, kp M k q v 75 j = if j = M 1 8 then v else M 75 j := by
  unfold kp
  refine ⟨fun z j h1 h2 h3 h4 => ?_, b_ups, fun j => ?_, fun j => ?_, fun j => ?_⟩
  · have : b_up (b_up (b_up (b_up M 73 (M 1 8) k) 74 (M 1 8) q) 75 (M 1 8) v) 1 8 (M 1 8 + 1) z j = b_up (b_up (b_up M 73 (M 1 8) k) 74 (M 1 8) q) 75 (M 1 8) v z j := if_neg h4
    rw [this, b_upc h3, b_upc h2, b_upc h1]
  · rw [b_upc (by decide), b_upc (by decide), b_upc (by decide), b_upJ]
  · rw [b_upc (by decide), b_upc (by decide), b_upJ, b_upc (by decide)]
  · rw [b_upc (by decide), b_upJ, b_upc (by decide), b_upc (by decide)]
def W_rw : bW := [(1, some 2), (1, some 3), (1, some 4), (1, some 7), (1, some 8), (73, none), (74, none), (75, none)]
theorem t_rewind {M : bM} (hT : R_tape M) : b_wp (F_X10_rewind M) (fun N => b_fr W_rw M N ∧ Cr (cb M) (M 1 1) N ∧ Cs (cb M) N 0) := by
  have hB := cb_B hT
  have b := hB.1
  generalize hc : cb M = c at *
  generalize hnn : M 1 1 = n at *
  unfold F_X10_rewind
  refine b_Wl (b_Wb (b_wp_m (fun Q z => ?_) (b_loop_ind (P := fun Q : bM => b_fr W_rw M Q ∧ Cr c n Q) (I := fun t : Int × Int × bM => (0 ≤ t.2.1 ∧ t.2.1 ≤ t.1 ∧ t.1 ≤ n) ∧ b_fr W_rw M t.2.2 ∧ (0 ≤ t.2.2 1 8 ∧ t.2.2 1 8 ≤ t.2.1) ∧ (∀ j : Nat, (j : Int) < t.2.2 1 8 → (t.2.2 73 j = t_k c (t_at c j) ∧ t.2.2 73 j ≠ 0) ∧ t.2.2 74 j = t_q c (t_at c j) ∧ (t_k c (t_at c j) ≠ 4 → t.2.2 75 j = t_v c (t_at c j))) ∧ t_at c (t.2.2 1 8).toNat ≤ t.1 ∧ ∀ j, t_at c (t.2.2 1 8).toNat ≤ j → j < t.1 → z_bl c j = true) (fun t => (n - t.1).toNat) ?_ (0, 0, b_up M 1 8 0) ?_)))
  · obtain ⟨z1, z2⟩ := z
    unfold F_X10_rewind_b61
    refine b_Wl ?_
    generalize hU : b_up Q 1 7 (-1) = U
    have fU : b_fr W_rw M U := by subst hU; exact b_frF z1 (by decide)
    have rU : Cr c n U := by
      subst hU
      unfold Cr
      rw [b_upi (by decide), b_upi (by decide), show b_up Q 1 7 (-1) 73 = Q 73 from funext fun i => b_upc (by decide), show b_up Q 1 7 (-1) 74 = Q 74 from funext fun i => b_upc (by decide), show b_up Q 1 7 (-1) 75 = Q 75 from funext fun i => b_upc (by decide)]
      exact z2
    have u7 : U 1 7 = ((0 : Nat) : Int) - 1 := by subst hU; rw [b_ups]; rfl
    clear hU
    refine b_Wb (b_wp_m (fun N y => ?_) (t_step hB rU u7 (by decide)))
    obtain ⟨y1, y2, y3⟩ := y
    refine b_Ws ⟨fun z j hj => ?_, ?_, y3⟩
    · by_cases e : z = 1
      · subst e
        rw [y2 j (fun q => by subst q; exact absurd hj (by decide)) (fun q => by subst q; exact absurd hj (by decide)) (fun q => by subst q; exact absurd hj (by decide)) (fun q => by subst q; exact absurd hj (by decide))]
        exact fU 1 j hj
      · rw [y1 z j e]; exact fU z j hj
    · unfold Cr
      rw [y2 1 (by decide) (by decide) (by decide) (by decide), y2 8 (by decide) (by decide) (by decide) (by decide), show N 73 = U 73 from funext fun i => y1 73 i (by decide), show N 74 = U 74 from funext fun i => y1 74 i (by decide), show N 75 = U 75 from funext fun i => y1 75 i (by decide)]
      exact rU
  · intro ⟨p, r, Q⟩ ⟨h1, h2, h3, h4, h5, h6⟩
    dsimp only at h1 h2 h3 h4 h5 h6 ⊢
    unfold F_X10_rewind_s9
    have q11 : Q 1 1 = n := by rw [h2 1 1 (by decide), hnn]
    have qc : cb Q = c := by
      rw [← hc]
      unfold cb
      rw [q11, hnn, show Q 72 = M 72 from funext fun i => h2 72 i (by simp [b_ins, W_rw])]
    have ta := t_at_r hB (Q 1 8).toNat
    have fin : n ≤ p → b_fr W_rw M Q ∧ Cr c n Q := by
      intro z
      have e : p = n := by omega
      refine ⟨h2, ⟨q11, by omega⟩, h4, ?_⟩
      have qn : t_q c (t_at c (Q 1 8).toNat) = n := z_run_u (t_q_p hB ta.1) ⟨ta.2, fun j j1 j2 => h6 j j1 (by omega), z_bl_n hB n (Int.le_refl _)⟩
      rw [qn]
      exact hB.2.1 n (Int.le_refl _)
    rw [q11]
    refine b_Wi (fun a => b_Ws (fin (by omega))) (fun a => b_Wi (fun a1 => b_Ws (fin a1)) (fun a1 => b_We (e_byteAt (by omega)) ?_))
    rw [qc]
    have blank : z_bl c p = true → b_wp (F_X10_rewind_b42 p r Q) (Sum.elim (fun t : Int × Int × bM => ((0 ≤ t.2.1 ∧ t.2.1 ≤ t.1 ∧ t.1 ≤ n) ∧ b_fr W_rw M t.2.2 ∧ (0 ≤ t.2.2 1 8 ∧ t.2.2 1 8 ≤ t.2.1) ∧ (∀ j : Nat, (j : Int) < t.2.2 1 8 → (t.2.2 73 j = t_k c (t_at c j) ∧ t.2.2 73 j ≠ 0) ∧ t.2.2 74 j = t_q c (t_at c j) ∧ (t_k c (t_at c j) ≠ 4 → t.2.2 75 j = t_v c (t_at c j))) ∧ t_at c (t.2.2 1 8).toNat ≤ t.1 ∧ ∀ j, t_at c (t.2.2 1 8).toNat ≤ j → j < t.1 → z_bl c j = true) ∧ (n - t.1).toNat < (n - p).toNat) (fun Q : bM => b_fr W_rw M Q ∧ Cr c n Q)) := by
      intro z
      unfold F_X10_rewind_b42
      refine b_Wg (by omega) (b_Ws ⟨⟨by dsimp only; omega, h2, by dsimp only; omega, h4, by dsimp only; omega, fun j j1 j2 => ?_⟩, by dsimp only; omega⟩)
      dsimp only at j2
      by_cases e : j = p
      · rw [e]; exact z
      · exact h6 j j1 (by omega)
    refine b_Wi (fun a2 => blank (decide_eq_true (Or.inl a2))) (fun a2 => b_Wi (fun a3 => blank (decide_eq_true (Or.inr a3))) (fun a3 => ?_))
    have nb : z_bl c p = false := decide_eq_false (fun z => by rcases z with z | z; exact a2 z; exact a3 z)
    have eq : t_q c (t_at c (Q 1 8).toNat) = p := z_run_u (t_q_p hB ta.1) ⟨h5, h6, nb⟩
    have ne : c p ≠ -1 := fun z => by
      have := (z_B_n hB (by omega)).mp z
      omega
    have ct := t_cut (M := Q) hB qc (by omega) ta (by omega) (by rw [eq]; exact ne)
    have te := t_e_p hB ta.1 ta.2
    rw [eq] at ct te
    have te2 := te.2 ne
    refine b_Wb (b_wp_m (fun o y => ?_) ct)
    obtain ⟨e, O⟩ := o
    obtain ⟨y1, v, y2, y3⟩ := y
    dsimp only at y1 y3
    subst y1 y3
    obtain ⟨k0, k8, k73, k74, k75⟩ := kp_c (M := Q) (k := t_k c (t_at c (Q 1 8).toNat)) (q := p) (v := v)
    have e8 : (Q 1 8 + 1).toNat = (Q 1 8).toNat + 1 := by omega
    refine b_Wtwo (b_Wg (by omega) (b_Ws ⟨⟨by dsimp only; omega, fun z j hj => ?_, by dsimp only; rw [k8]; omega, fun j hj => ?_, ?_, fun j j1 j2 => ?_⟩, by dsimp only; omega⟩))
    · dsimp only
      rw [k0 z j (fun q => by subst q; revert hj; simp [b_ins, W_rw]) (fun q => by subst q; revert hj; simp [b_ins, W_rw]) (fun q => by subst q; revert hj; simp [b_ins, W_rw]) (fun q => by obtain ⟨q1, q2⟩ := q; subst q1 q2; exact absurd hj (by decide))]
      exact h2 z j hj
    · dsimp only at hj ⊢
      rw [k8] at hj
      rw [k73, k74, k75]
      by_cases ej : (j : Int) = Q 1 8
      · rw [if_pos ej, if_pos ej, if_pos ej]
        have ej2 : (Q 1 8).toNat = j := by omega
        rw [ej2] at eq y2 ⊢
        exact ⟨⟨rfl, fun z => ne (by rw [← eq]; exact t_k_0.mp z)⟩, eq.symm, y2⟩
      · rw [if_neg ej, if_neg ej, if_neg ej]
        exact h4 j (by omega)
    · dsimp only
      rw [k8, e8]
      exact Int.le_refl _
    · dsimp only at j1 j2
      rw [k8, e8] at j1
      have : t_e c (t_at c (Q 1 8).toNat) ≤ j := j1
      omega
  · refine ⟨by dsimp only; omega, b_frF b_fr_refl (by decide), by dsimp only; rw [b_ups]; omega, fun j hj => ?_, ?_, fun j j1 j2 => ?_⟩
    · dsimp only at hj
      rw [b_ups] at hj
      omega
    · dsimp only
      rw [b_ups]
      exact Int.le_refl _
    · dsimp only at j1 j2
      rw [b_ups] at j1
      have : (0 : Int) ≤ j := j1
      omega
/-- step by step -/
theorem Cr_k {W : bW} {c : Int → Int} {n : Int} {M N : bM} (f : b_fr W M N) (d : b_dis W [(1, some 1), (1, some 8), (73, none), (74, none), (75, none)] = true) (h : Cr c n M) : Cr c n N := by
  have k := b_kp1 f d
  unfold Cr
  rw [k 1 1 rfl, k 1 8 rfl, show N 73 = M 73 from funext fun i => k 73 i rfl, show N 74 = M 74 from funext fun i => k 74 i rfl, show N 75 = M 75 from funext fun i => k 75 i rfl]
  exact h
def W_st : bW := [(1, some 2), (1, some 3), (1, some 4), (1, some 7)]
theorem t_stepN {M : bM} {c : Int → Int} {n : Int} {i : Nat} (hB : z_B c n) (hR : Cr c n M) (hs : Cs c M i) (hi : (i : Int) < 1000000) : b_wp (F_X10_step M) (fun N => b_fr W_st M N ∧ Cr c n N ∧ Cs c N (i + 1)) := by
  refine b_wp_m (fun N y => ?_) (t_step (i := i + 1) hB hR (by rw [hs.1]; omega) (by omega))
  obtain ⟨y1, y2, y3⟩ := y
  have f : b_fr W_st M N := fun z j hj => by
    by_cases e : z = 1
    · subst e
      exact y2 j (fun q => by subst q; exact absurd hj (by decide)) (fun q => by subst q; exact absurd hj (by decide)) (fun q => by subst q; exact absurd hj (by decide)) (fun q => by subst q; exact absurd hj (by decide))
    · exact y1 z j e
  exact ⟨f, Cr_k f (by decide) hR, y3⟩
