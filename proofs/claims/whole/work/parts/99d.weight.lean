theorem op_weight {k d : Int} {M : bM} (hC : C_all M) : b_wp (F_X11_weight k d M) (fun o => b_wp (F_X12_weight k d M) (fun o2 => o = o2.1 ∧ C_all o2.2)) := by
  have s1 := hC.1.2.2.2.1.1
  have hR := hC.1.2.2.2.2.2.2.1
  have hx := x_act_r (d := d) hR
  unfold F_X11_weight F_X12_weight
  by_cases q : 0 ≤ k ∧ k < M 5 0
  · by_cases q1 : 0 ≤ d ∧ d ≤ 9999
    · have hw := hC.1.2.2.2.2.2.2.2.1 k q.1 q.2 (x_act M d) (by omega) (by omega)
      have wb : F_X7_weightBy k (x_act M d) M = some (x_wt M (x_act M d) k) := by
        refine b_eqn ?_
        unfold F_X7_weightBy
        refine b_We e_X7_has (b_Wf (by rw [b_01_0]; omega) (b_Wf (by omega) (b_Wf (by omega) (b_Wg (by omega) (b_Ws ?_)))))
        rw [show k * 9 = 9 * k by omega]
        exact hw.1
      refine b_We e_X7_has (b_Wf (by rw [b_01_0]; omega) (b_We e_X11_isDay (b_Wf (by rw [b_01_0]; omega) (b_We (e_X1_numberInForce hR) (b_We wb (b_Ws ?_))))))
      refine b_We (e_X12_isPaper (by omega)) (b_Wf (by rw [b_01_0]; omega) (b_We e_X12_isDay (b_Wf (by rw [b_01_0]; omega) (b_Wb (b_wp_m (fun o z => ?_) (t_wo (d := d) hR hC.2.2.1.2.1 hC.2.2.1.2.2 (by omega) q))))))
      obtain ⟨x, P⟩ := o
      obtain ⟨z1, z2⟩ := z
      dsimp only at z1 z2
      have fr : b_fr [(208, none)] M P := fun c i hi => z2 c i (fun z => by subst z; revert hi; simp [b_ins])
      exact b_Wtwo (b_Ws ⟨z1.symm, C_k fr (by decide +kernel) hC⟩)
    · refine b_We e_X7_has (b_Wf (by rw [b_01_0]; omega) (b_We e_X11_isDay (b_Wt (by rw [b_01_0]; omega) (b_Ws ?_))))
      exact b_We (e_X12_isPaper (by omega)) (b_Wf (by rw [b_01_0]; omega) (b_We e_X12_isDay (b_Wt (by rw [b_01_0]; omega) (b_Ws ⟨rfl, hC⟩))))
  · refine b_We e_X7_has (b_Wt (by rw [b_01_0]; omega) (b_Ws ?_))
    exact b_We (e_X12_isPaper (by omega)) (b_Wt (by rw [b_01_0]; omega) (b_Ws ⟨rfl, hC⟩))
