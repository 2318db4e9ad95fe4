def W_aM : bW := W_aC ++ W_rw ++ [(4, some 8)]
def W_X12_a0 : bW := W_X12_take ++ [(11, some 8), (11, some 9), (11, some 50), (11, some 51), (11, some 1), (11, some 2), (183, none)]
/-- what reading an ACT changes of the class, from the start on -/
def Fm (cc : Nat) (M D : bM) : Prop := ∀ (z : Nat) (j : Int), b_ins W_aM z j = false → ¬ (12 ≤ z ∧ z < 62 ∧ z % 10 = cc % 10 ∧ (z < 52 ∨ j ≠ 0)) → D z j = M z j
/-- what reading an ACT changes of the reference, from the start on -/
def Fb (R Q : bM) : Prop := b_fr (W_aR ++ W_X12_a0) R Q ∧ (∀ j, j < 192 → (Q 184 j = R 184 j ∧ Q 185 j = R 185 j) ∧ Q 186 j = R 186 j ∧ Q 187 j = R 187 j) ∧ (∀ j, j < 19200 → Q 188 j = R 188 j) ∧ (∀ j, j < 2304 → Q 189 j = R 189 j ∧ Q 190 j = R 190 j ∧ Q 191 j = R 191 j) ∧ (∀ j, j < 13824 → Q 192 j = R 192 j ∧ Q 193 j = R 193 j) ∧ (∀ j, (j < 88 ∨ 99 ≤ j) → Q 183 j = R 183 j) ∧ Q 11 1 = 0 ∧ (N3 R → N3 Q)
noncomputable def rdR (R : bM) : Option (bM ⊕ (Int × bM)) := b_bind (F_X12_take R) (fun M1 => b_let (b_up M1 11 8 0) (fun M2 => b_let (b_up M2 11 9 (-1)) (fun M3 => b_let (b_up M3 11 50 0) (fun M4 => b_let (b_up M4 11 51 0) (fun M5 => b_bind (b_loop (fun t : Int × bM => F_X12_act_s26 t.1 t.2) (0, M5)) (fun t => b_loop (fun t => F_X12_act_s51 t) t))))))
theorem act_rd {R : bM} : F_X12_act R = b_bind (rdR R) (Sum.elim (fun t => F_X12_act_b69 t) some) := by
  unfold F_X12_act rdR b_let
  rw [b_bA]
  congr 1
  funext M1
  rw [b_bA]
theorem t_readB {M R : bM} {cc : Nat} (hT : R_tape M) (hwd : R_wd M) (h40 : 0 ≤ M 4 0 ∧ M 4 0 ≤ 8) (hcc : (cc : Int) = 13 + M 4 0) (hz0 : M (cc + 40) 0 = 0) (hR1 : R 11 1 = M 11 1) (hR2 : R 162 = M 162) (hN3 : N3 R) : b_wp (rdR R) (Sum.elim (fun Q : bM => Fb R Q ∧ ∃ (D : bM) (Z : Int) (N i : Nat), F_X1_read M = some (Z, D) ∧ Fm cc M D ∧ Cx (cb M) (M 1 1) D Q cc i N Z ∧ D 4 9 < 1000 ∧ D 1 5 = Q 11 8 ∧ D 1 6 = Q 11 9) (fun x : Int × bM => x.1 = -1 ∧ Fb R x.2 ∧ ∃ D, F_X1_read M = some (-1, D) ∧ Fm cc M D ∧ D 1 5 = x.2 11 8 ∧ D 1 6 = x.2 11 9)) := by
  have hB := cb_B hT
  obtain ⟨C0, s1, s2, s3, s4, s5, s6, s7, s8, s9, s10⟩ := t_start hT hwd h40 hcc
  have tk : b_wp (F_X12_take R) (fun N => b_fr W_X12_take R N ∧ N 11 1 = 0 ∧ rb N = cb M ∧ N 11 2 ≤ 1000 ∧ Rs (cb M) N 0) := by
    refine t_take hB (fun p => ?_) (by rw [hR1, hT.1]; exact hT.2.2.1)
    rw [hR1, hR2, hT.1, hT.2.2.2.1]
    rfl
  unfold rdR
  refine b_Wb (b_wp_m (fun R1 z => b_Wl (b_Wl (b_Wl (b_Wl ?_)))) tk)
  obtain ⟨z1, z2, z3, z4, z5⟩ := z
  generalize hR5 : b_up (b_up (b_up (b_up R1 11 8 0) 11 9 (-1)) 11 50 0) 11 51 0 = R5
  have f5 : b_fr [(11, some 8), (11, some 9), (11, some 50), (11, some 51)] R1 R5 := by subst hR5; exact b_frF (b_frF (b_frF (b_frF b_fr_refl (by decide)) (by decide)) (by decide)) (by decide)
  have v8 : R5 11 8 = 0 := by subst hR5; rw [b_upi (by decide), b_upi (by decide), b_upi (by decide), b_ups]
  have v9 : R5 11 9 = -1 := by subst hR5; rw [b_upi (by decide), b_upi (by decide), b_ups]
  have v50 : R5 11 50 = 0 := by subst hR5; rw [b_upi (by decide), b_ups]
  have v51 : R5 11 51 = 0 := by subst hR5; exact b_ups
  clear hR5
  have rt5 : Rt (cb M) R5 0 := Rt_k f5 (by decide) ⟨⟨z3, z4⟩, z5⟩
  refine b_Wb (b_wp_m (fun R6 z => ?_) (t_s26 (R := R5)))
  obtain ⟨y1, y2⟩ := z
  have f6 : b_fr [(183, none)] R5 R6 := fun c j hc => y1 c j (by intro e; subst e; simp [b_ins] at hc)
  have fR6 : b_fr W_X12_a0 R R6 := b_fr_tr (b_fr_mo (by decide) z1) (b_fr_tr (b_fr_mo (by decide) f5) (b_fr_mo (by decide) f6))
  have k6 := b_kp1 fR6 (show b_dis W_X12_a0 [(184, none), (185, none), (186, none), (187, none), (188, none), (189, none), (190, none), (191, none), (192, none), (193, none)] = true by decide)
  have r183 : ∀ j, R5 183 j = R 183 j := fun j => by rw [f5 183 j (by simp [b_ins]), z1 183 j (by simp [b_ins, W_X12_take])]
  have q0 := qT_n (i := 0) hB
  have cc2 : 12 ≤ cc ∧ cc < 22 := by omega
  have cx : Cx (cb M) (M 1 1) C0 R6 cc 0 0 0 := by
    refine ⟨⟨⟨s2, Rt_k f6 (by decide) rt5, by omega⟩, ⟨s3, cc2⟩, ⟨s6, ?_, by decide⟩, ⟨?_, ?_, by omega, by omega⟩, fun j => ?_, fun j j0 j1 => by omega⟩, fun j j0 j1 => ?_, fun b hb => ?_, ?_, by decide, by omega⟩
    · rw [y2, if_pos (by decide)]; rfl
    · show C0 (cc + 40) 0 = C0 4 9
      rw [s8 (cc + 40) 0 (by simp [b_ins, W_rw]) (by omega) (by omega), s4]; exact hz0
    · rw [s8 (cc + 40) 0 (by simp [b_ins, W_rw]) (by omega) (by omega)]; exact hz0
    · rw [k6 193 j rfl]; exact hN3 j
    · obtain ⟨p1, p2⟩ := s_u0_pl j j0 j1
      rw [s7 j j0 j1, y2, if_pos (by omega), p1, show 88 + j - 88 = j by omega]
      exact ⟨rfl, by omega, fun _ => p2.2⟩
    · rw [s5, y1 11 51 (by decide), v51, i_bt_0, i_bt_0]
    · rw [y1 11 50 (by decide)]; exact v50
  have fm : ∀ D, Fc cc C0 D → Fm cc M D := by
    intro D h z j h1 h2
    have i1 : b_ins W_aC z j = false := by
      rw [← Bool.not_eq_true]; intro q
      rw [b_sbs_ins (W2 := W_aM) (by decide) q] at h1
      exact absurd h1 (by decide)
    have i2 : b_ins (W_rw ++ [(1, some 5), (1, some 6), (4, some 8), (4, some 9), (4, some 10)]) z j = false := by
      rw [← Bool.not_eq_true]; intro q
      rw [b_sbs_ins (W2 := W_aM) (by decide) q] at h1
      exact absurd h1 (by decide)
    rw [h z j i1 h2]
    exact s8 z j i2 (by omega) (by omega)
  have fb : ∀ Q, Fa R6 Q → Fb R Q := by
    intro Q h
    refine ⟨b_fr_tr (b_fr_mo (by decide) fR6) (b_fr_mo (by decide) h.1), fun j hj => ?_, fun j hj => ?_, fun j hj => ?_, fun j hj => ?_, fun j hj => ?_, ?_, fun z => h.2.2.2.2.2.2 (fun j => by rw [k6 193 j rfl]; exact z j)⟩
    · obtain ⟨⟨a, b⟩, d, e⟩ := h.2.1 j hj
      rw [a, b, d, e]
      exact ⟨⟨k6 184 j rfl, k6 185 j rfl⟩, k6 186 j rfl, k6 187 j rfl⟩
    · rw [h.2.2.1 j hj]; exact k6 188 j rfl
    · obtain ⟨a, b, d⟩ := h.2.2.2.1 j hj
      rw [a, b, d]; exact ⟨k6 189 j rfl, k6 190 j rfl, k6 191 j rfl⟩
    · obtain ⟨a, b⟩ := h.2.2.2.2.1 j hj
      rw [a, b]; exact ⟨k6 192 j rfl, k6 193 j rfl⟩
    · rw [h.2.2.2.2.2.1 j hj, y2, if_neg (by omega)]; exact r183 j
    · rw [h.1 11 1 (by decide), y1 11 1 (by decide), f5 11 1 (by decide)]; exact z2
  refine b_wp_m (fun r z => ?_) (t_clauses hB cx s4)
  rcases r with Q | x
  · obtain ⟨fa, D, Z, N, i, e1, e2, e3, e4, e5⟩ := z
    refine ⟨fb Q fa, D, Z, N, i, ?_, fm D e2, e3, e4, ?_, ?_⟩
    · rw [s1, e1]; rfl
    · rw [e5.1.1, e5.2.1, s9, y1 11 8 (by decide), v8]
    · rw [e5.1.2, e5.2.2, s10, y1 11 9 (by decide), v9]
  · obtain ⟨x1, fa, D, e1, e2, e3⟩ := z
    refine ⟨x1, fb x.2 fa, D, ?_, fm D e2, e3⟩
    rw [s1, e1]; rfl
