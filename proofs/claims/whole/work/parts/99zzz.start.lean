theorem t_start {M : bM} {cc : Nat} (hT : R_tape M) (hwd : R_wd M) (h40 : 0 ≤ M 4 0 ∧ M 4 0 ≤ 8) (hcc : (cc : Int) = 13 + M 4 0) : ∃ C0, F_X1_read M = b_bind (b_loop (fun t : Int × bM => F_X1_read_s40 t.1 t.2) (0, C0)) (Sum.elim (fun t => F_X1_read_b130 t) some) ∧ Ct (cb M) (M 1 1) C0 0 ∧ C0 4 8 = cc ∧ C0 4 9 = 0 ∧ C0 4 10 = 0 ∧ C0 cc 1 = 0 ∧ (∀ j, 0 ≤ j → j < 10 → C0 (cc + 10) j = s_u0 j) ∧ (∀ (z : Nat) (j : Int), b_ins (W_rw ++ [(1, some 5), (1, some 6), (4, some 8), (4, some 9), (4, some 10)]) z j = false → z ≠ cc + 10 → ¬ (z = cc ∧ j = 1) → C0 z j = M z j) ∧ C0 1 5 = 0 ∧ C0 1 6 = -1 := by
  generalize hU : b_up (b_up M 1 5 0) 1 6 (-1) = U
  have fU : b_fr [(1, some 5), (1, some 6)] M U := by subst hU; exact b_frF (b_frF b_fr_refl (by decide)) (by decide)
  have u5 : U 1 5 = 0 ∧ U 1 6 = -1 := by subst hU; exact ⟨by rw [b_upi (by decide), b_ups], b_ups⟩
  have hTU : R_tape U := R_tape_k (b_kp1 fU (by decide)) hT
  have ec : cb U = cb M := by
    unfold cb
    rw [fU 1 1 (by decide), show U 72 = M 72 from funext fun i => fU 72 i (by simp [b_ins])]
  obtain ⟨M1, hM1, f1, c1, c2⟩ := b_wp_ex (t_rewind hTU)
  rw [ec] at c1 c2
  rw [fU 1 1 (by decide)] at c1
  have eb : F_X10_begin M = some M1 := by
    refine b_eqn ?_
    unfold F_X10_begin
    refine b_Wl (b_Wl ?_)
    rw [hU]
    exact b_We hM1 (b_Ws rfl)
  clear hU
  have fM1 : b_fr (W_rw ++ [(1, some 5), (1, some 6)]) M M1 := b_fr_tr (b_fr_mo (by decide) fU) (b_fr_mo (by decide) f1)
  have m40 : M1 4 0 = M 4 0 := fM1 4 0 (by decide)
  have es : F_X1_slot (M1 4 0 + 1) M1 = some cc := by
    refine b_eqn ?_
    unfold F_X1_slot F_X1_slot_b28
    rw [m40]
    exact b_Wf (by omega) (b_Wf (by omega) (b_Wg (by omega) (b_Ws (by omega))))
  have wd1 : R_wd M1 := R_wd_k (b_kp1 fM1 (by decide)) hwd
  generalize hM5 : b_up M1 4 8 (cc : Int) = M5
  have f5 : b_fr [(4, some 8)] M1 M5 := by subst hM5; exact b_frF b_fr_refl (by decide)
  have m58 : M5 4 8 = cc := by subst hM5; exact b_ups
  have tn : (M5 4 8).toNat = cc := by rw [m58]; omega
  generalize hM7 : b_up (b_set M5 (cc + 10) (s_cpy s_u0 (M5 (cc + 10)) 0 0 10)) cc 1 0 = M7
  have f7 : ∀ (z : Nat) (j : Int), z ≠ cc + 10 → ¬ (z = cc ∧ j = 1) → M7 z j = M5 z j := by
    subst hM7
    intro z j h1 h2
    by_cases e : z = cc
    · subst e
      rw [b_upi (fun q => h2 ⟨rfl, q⟩)]
      exact b_set_n (by omega) j
    · rw [b_upc e]
      exact b_set_n h1 j
  have m7a : M7 cc 1 = 0 := by subst hM7; exact b_ups
  have m7b : ∀ j, 0 ≤ j → j < 10 → M7 (cc + 10) j = s_u0 j := by
    subst hM7
    intro j j0 j1
    rw [b_upc (by omega), b_set_s]
    unfold s_cpy
    rw [if_pos (by omega), show 0 + (j - 0) = j by omega]
  have er : F_X0_reset_a cc M5 = some M7 := by
    subst hM7
    refine b_eqn ?_
    unfold F_X0_reset_a
    exact b_Wg ⟨by omega, by decide⟩ (b_Wl (b_Wl (b_Ws rfl)))
  clear hM7
  generalize hC : b_up (b_up M7 4 9 0) 4 10 0 = C0
  have fC : b_fr [(4, some 9), (4, some 10)] M7 C0 := by subst hC; exact b_frF (b_frF b_fr_refl (by decide)) (by decide)
  have a9 : C0 4 9 = 0 := by subst hC; rw [b_upi (by decide), b_ups]
  have a10 : C0 4 10 = 0 := by subst hC; exact b_ups
  have fin : ∀ (z : Nat) (j : Int), b_ins (W_rw ++ [(1, some 5), (1, some 6), (4, some 8), (4, some 9), (4, some 10)]) z j = false → z ≠ cc + 10 → ¬ (z = cc ∧ j = 1) → C0 z j = M z j := by
    intro z j h1 h2 h3
    rw [b_fr_mo (W2 := W_rw ++ [(1, some 5), (1, some 6), (4, some 8), (4, some 9), (4, some 10)]) (by decide) fC z j h1, f7 z j h2 h3, b_fr_mo (W2 := W_rw ++ [(1, some 5), (1, some 6), (4, some 8), (4, some 9), (4, some 10)]) (by decide) f5 z j h1, b_fr_mo (W2 := W_rw ++ [(1, some 5), (1, some 6), (4, some 8), (4, some 9), (4, some 10)]) (by decide) fM1 z j h1]
  have low : ∀ (z : Nat) (j : Int), z = 1 ∨ z = 72 ∨ z = 104 ∨ z = 105 ∨ z = 106 → C0 z j = M1 z j := by
    intro z j hz
    rw [fC z j (by simp [b_ins]; omega), f7 z j (by omega) (by omega), f5 z j (by simp [b_ins]; omega)]
  refine ⟨C0, ?_, Ct_p low ⟨c1, c2, wd1⟩, ?_, a9, a10, ?_, fun j j0 j1 => ?_, fin, ?_, ?_⟩
  · unfold F_X1_read
    rw [eb, b_bind_s]
    unfold b_g b_let
    rw [if_pos (show b_i32 (M1 4 0 + 1) by rw [m40]; omega), es, b_bind_s, if_pos (by omega)]
    dsimp only
    rw [hM5, tn, if_pos (by omega), er, b_bind_s, hC]
  · rw [fC 4 8 (by decide), f7 4 8 (by omega) (by omega)]; exact m58
  · rw [fC cc 1 (by simp [b_ins])]; exact m7a
  · rw [fC (cc + 10) j (by simp [b_ins])]; exact m7b j j0 j1
  · rw [low 1 5 (by decide), f1 1 5 (by decide)]; exact u5.1
  · rw [low 1 6 (by decide), f1 1 6 (by decide)]; exact u5.2
