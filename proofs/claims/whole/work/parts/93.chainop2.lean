def W_se1 : bW := (141, none) :: W_X2_search
theorem op_chain {l p d : Int} {M : bM} (hC : C_all M) (hL : R_link M) : b_wp (F_X11_chain l p d M) (fun o => b_wp (F_X12_chain l p d o.2) (fun o2 => o.1 = o2.1 ∧ C_all o2.2 ∧ R_link o2.2)) := by
  have r1 := hC.1.1.1
  have l1 := hC.1.2.2.1.1
  unfold F_X11_chain F_X12_chain
  by_cases q : 0 ≤ l ∧ l < M 3 0
  · by_cases q0 : 0 ≤ p ∧ p < M 2 0
    · by_cases q1 : 0 ≤ d ∧ d ≤ 9999
      · refine b_We e_X5_has (b_Wf (by rw [b_01_0]; omega) (b_We e_X8_has (b_Wf (by rw [b_01_0]; omega) (b_We e_X11_isDay (b_Wf (by rw [b_01_0]; omega) (b_Wb (b_wp_m (fun N w => ?_) (t_evC hC q1))))))))
        obtain ⟨y1, y2, y3⟩ := w
        have n3 : N 3 0 = M 3 0 := y1 3 0 (by decide)
        have n2 : N 2 0 = M 2 0 := y1 2 0 (by decide)
        have r2 := y2.1.1.1
        have l2 := y2.1.2.2.1.1
        refine b_Wb (b_wp_m (fun o z => ?_) (t_search (l := l) (p := p) y3 y2.2.2.2 (by omega) (by omega)))
        obtain ⟨a, P⟩ := o
        obtain ⟨z1, z2⟩ := z
        dsimp only at z1 z2
        refine b_Wtwo (b_Wi (fun qa => b_Ws ?_) (fun qa => ?_))
        · dsimp only
          have p3 : P 3 0 = N 3 0 := z1 3 0 (by decide)
          have p2 : P 2 0 = N 2 0 := z1 2 0 (by decide)
          have p20 : P 11 20 = N 11 20 := z1 11 20 (by decide)
          have p12 : P 11 12 = N 11 12 := z1 11 12 (by decide)
          refine b_We (e_X12_isLot (by omega)) (b_Wf (by rw [b_01_0]; omega) (b_We (e_X12_isPerson (by omega)) (b_Wf (by rw [b_01_0]; omega) (b_We e_X12_isDay (b_Wf (by rw [b_01_0]; omega) (b_Wb (b_wp_m (fun o k => ?_) (t_mkC z2 z1 (by decide +kernel) (by decide +kernel) (by decide +kernel) y2 y3 (by omega) (by omega)))))))))
          obtain ⟨x, O⟩ := o
          obtain ⟨k1, k2⟩ := k
          dsimp only at k1 k2
          have qx : x = 0 := by
            rcases k2 with k2 | k2
            · exact k2.1
            · exact absurd qa k2.2.1
          refine b_Wtwo (b_Wt qx (b_Ws ⟨qa, C_k k1 (by decide +kernel) (C_k z1 (by decide +kernel) y2), R_link_k (b_kp1 k1 (by decide +kernel)) (R_link_k (b_kp1 z1 (by decide +kernel)) (R_link_k (b_kp1 y1 (by decide +kernel)) hL))⟩))
        · unfold F_X2_remember
          refine b_Wb (b_Wg (by decide) (b_Wl (b_Ws (b_Ws ?_))))
          dsimp only
          generalize hQ : b_set P 141 (s_cpy (P 140) (P 141) 0 0 12) = Q
          have z3 : b_fr W_se1 N Q := by
            subst hQ
            exact b_frS (b_fr_mo (by decide +kernel) z1) (by decide)
          have q141 : ∀ i, 0 ≤ i → i < 12 → Q 141 i = P 140 i := by
            intro i i0 i1
            subst hQ
            rw [b_set_s]
            unfold s_cpy
            rw [if_pos (by omega), show (0 : Int) + (i - 0) = i by omega]
          clear hQ
          have p3 : Q 3 0 = N 3 0 := z3 3 0 (by decide)
          have p2 : Q 2 0 = N 2 0 := z3 2 0 (by decide)
          have p20 : Q 11 20 = N 11 20 := z3 11 20 (by decide)
          have p12 : Q 11 12 = N 11 12 := z3 11 12 (by decide)
          refine b_We (e_X12_isLot (by omega)) (b_Wf (by rw [b_01_0]; omega) (b_We (e_X12_isPerson (by omega)) (b_Wf (by rw [b_01_0]; omega) (b_We e_X12_isDay (b_Wf (by rw [b_01_0]; omega) (b_Wb (b_wp_m (fun o k => ?_) (t_mkC z2 z3 (by decide +kernel) (by decide +kernel) (by decide +kernel) y2 y3 (by omega) (by omega)))))))))
          obtain ⟨x, O⟩ := o
          obtain ⟨k1, k2⟩ := k
          dsimp only at k1 k2
          have k3 := k2.resolve_left (fun z => qa z.2)
          clear k2
          obtain ⟨v1, v2, v3, v4, v5, v6, v7, v8, v9, v10, v11⟩ := k3
          refine b_Wtwo (b_Wf (by omega) (b_Wl (b_Wl (b_Wl (b_Wl (b_Wl (b_Wb (b_wp_m (fun R t => ?_) t_cpRow))))))))
          obtain ⟨t1, t2⟩ := t
          unfold F_X12_chain_b105
          have g84 : R 11 84 = O 11 84 := by
            rw [t1 11 84 (by decide)]; simp [b_up]
          have g93 : R 11 93 = O 11 84 ∧ R 11 94 = O 11 85 ∧ R 11 95 = O 11 86 ∧ R 11 96 = O 11 87 ∧ R 11 97 = 1 := by
            refine ⟨?_, ?_, ?_, ?_, ?_⟩
            · rw [t1 11 93 (by decide)]; simp [b_up]
            · rw [t1 11 94 (by decide)]; simp [b_up]
            · rw [t1 11 95 (by decide)]; simp [b_up]
            · rw [t1 11 96 (by decide)]; simp [b_up]
            · rw [t1 11 97 (by decide)]; simp [b_up]
          have f2 : b_fr [(11, some 93), (11, some 94), (11, some 95), (11, some 96), (11, some 97), (224, none)] O R := by
            intro c i hi
            have hc : c ≠ 224 := fun z => by subst z; revert hi; simp [b_ins]
            rw [t1 c i hc]
            exact b_frF (b_frF (b_frF (b_frF (b_frF b_fr_refl (by decide)) (by decide)) (by decide)) (by decide)) (by decide) c i hi
          refine b_Ws ⟨by dsimp only; omega, C_k f2 (by decide +kernel) (C_k k1 (by decide +kernel) (C_k z3 (by decide +kernel) y2)), ?_⟩
          dsimp only
          have r141 : ∀ i, R 141 i = Q 141 i := fun i => by
            rw [f2 141 i (by simp [b_ins]), k1 141 i (by simp [b_ins, W_X12_makeChain])]
          obtain ⟨g1, g2, g3, g4, g5⟩ := g93
          have s3 := q141 3 (by decide) (by decide)
          have s0 := q141 0 (by decide) (by decide)
          have s1 := q141 1 (by decide) (by decide)
          have s2 := q141 2 (by decide) (by decide)
          refine Or.inr ⟨g5, ?_, ?_, ?_, ?_, ?_, ?_, ?_, ?_⟩
          · rw [r141, g4, v8, s3]
          · rw [g4, v8]; exact v10.1
          · rw [r141, g1, v5, s0]
          · rw [r141, g2, v6, s1]
          · rw [r141, g3, v7, s2]
          · rw [g3, v7]; exact v9.1
          · rw [g3, v7]; exact v9.2
          · intro i i0 i1
            rw [g3, v7] at i1
            rw [r141, q141 _ (by omega) (by omega), t2 i i0 (by omega), ← v11 i i0 i1]
            simp [b_up]
      · refine b_We e_X5_has (b_Wf (by rw [b_01_0]; omega) (b_We e_X8_has (b_Wf (by rw [b_01_0]; omega) (b_We e_X11_isDay (b_Wt (by rw [b_01_0]; omega) (b_Ws ?_))))))
        dsimp only
        exact b_We (e_X12_isLot (by omega)) (b_Wf (by rw [b_01_0]; omega) (b_We (e_X12_isPerson (by omega)) (b_Wf (by rw [b_01_0]; omega) (b_We e_X12_isDay (b_Wt (by rw [b_01_0]; omega) (b_Ws ⟨rfl, hC, hL⟩))))))
    · refine b_We e_X5_has (b_Wf (by rw [b_01_0]; omega) (b_We e_X8_has (b_Wt (by rw [b_01_0]; omega) (b_Ws ?_))))
      dsimp only
      exact b_We (e_X12_isLot (by omega)) (b_Wf (by rw [b_01_0]; omega) (b_We (e_X12_isPerson (by omega)) (b_Wt (by rw [b_01_0]; omega) (b_Ws ⟨rfl, hC, hL⟩))))
  · refine b_We e_X5_has (b_Wt (by rw [b_01_0]; omega) (b_Ws ?_))
    dsimp only
    exact b_We (e_X12_isLot (by omega)) (b_Wt (by rw [b_01_0]; omega) (b_Ws ⟨rfl, hC, hL⟩))
