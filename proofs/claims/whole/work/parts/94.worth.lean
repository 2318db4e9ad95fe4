/-- what a CLAIM is worth, by the CHAIN that was found -/
noncomputable def Wo (M : bM) (d l p a : Int) (F : Int → Int) : Int := if a ≠ -1 ∧ F 0 ≤ x_rule M d 3 ∧ x_rule M d 1 ≤ F 1 then 1 else if a ≠ -1 ∧ F 0 ≤ x_rule M d 3 ∧ x_rule M d 2 ≤ F 1 then 2 else if x_hd M d l p (d / 365 + 1).toNat < x_rule M d 5 then 3 else 2
def Wg (a : Int) (F : Int → Int) : Int := if a = -1 then 99 else F 0
def Ww (a : Int) (F : Int → Int) : Int := if a = -1 then 0 else F 1
theorem Wo_3 {M : bM} {d l p a : Int} {F : Int → Int} (h : ¬ (a ≠ -1 ∧ F 0 ≤ x_rule M d 3 ∧ x_rule M d 1 ≤ F 1)) (h2 : ¬ (a ≠ -1 ∧ F 0 ≤ x_rule M d 3 ∧ x_rule M d 2 ≤ F 1)) : Wo M d l p a F = if x_hd M d l p (d / 365 + 1).toNat < x_rule M d 5 then 3 else 2 := by
  unfold Wo
  rw [if_neg h, if_neg h2]
theorem t_appraise {M : bM} {d c : Int} (hC : C_all M) (hG : G_all M d) (hd : 0 ≤ d ∧ d ≤ 9999) (hc : 0 ≤ c ∧ c < 30) (hl : 0 ≤ M 148 c ∧ M 148 c < M 3 0) (hp : 0 ≤ M 147 c ∧ M 147 c < M 2 0) : b_wp (F_X3_appraise c d M) (fun o => b_fr W_X3_appraise M o.2 ∧ ∃ a F, Sr M d (M 148 c) (M 147 c) a F ∧ o.1 = Wo M d (M 148 c) (M 147 c) a F ∧ o.2 9 13 = Wg a F ∧ o.2 9 14 = Ww a F) := by
  refine b_wl_wp (w_X3_appraise b_fr_refl) ?_
  have hR := hC.1.2.2.2.2.2.2.1
  have hx := (e_X1_inForce (d := d) hR)
  unfold F_X3_appraise
  refine b_We hx (b_Wg hc (b_Wb (b_wp_m (fun o z => ?_) (t_search hG hC.2.2.2 hl hp))))
  obtain ⟨a, P⟩ := o
  obtain ⟨z1, z2⟩ := z
  dsimp only at z1 z2
  have hv : 12 ≤ 12 + (x_act M d).toNat ∧ 12 + (x_act M d).toNat < 22 := by
    have h1 := hR.1
    have h2 := x_act_r (d := d) hR
    omega
  have ce : ∀ Q : bM, b_fr W_X3_appraise M Q → C_all Q ∧ G_all Q d ∧ SS M Q ∧ GS M Q ∧ Q 148 c = M 148 c ∧ Q 147 c = M 147 c ∧ Q 3 0 = M 3 0 ∧ Q 2 0 = M 2 0 := fun Q f => ⟨C_k f (by decide +kernel) hC, G_k f (by decide +kernel) hG, b_kp1 f (by decide +kernel), b_kp1 f (by decide +kernel), f 148 c (by simp [b_ins, W_X3_appraise]), f 147 c (by simp [b_ins, W_X3_appraise]), f 3 0 (by decide), f 2 0 (by decide)⟩
  have told : ∀ Q : bM, b_fr W_X3_appraise M Q → ∀ i, 0 ≤ i ∧ i < 10 → F_X0_told_a (12 + (x_act M d).toNat) i Q = some (x_rule M d i) := by
    intro Q f i hi
    have ss := (ce Q f).2.2.1
    have := x_toldN (d := d) (ce Q f).1.1.2.2.2.2.2.2.1 hi
    rw [sp_rule ss, sp_act ss] at this
    exact this
  have b146 : ∀ Q : bM, b_fr W_X3_appraise M Q → b_wp (F_X3_appraise_b146 c d (12 + (x_act M d).toNat) Q) (fun o => o.1 = (if x_hd M d (M 148 c) (M 147 c) (d / 365 + 1).toNat < x_rule M d 5 then 3 else 2) ∧ o.2 = Q) := by
    intro Q f
    obtain ⟨k1, k2, k3, k4, k5, k6, k7, k8⟩ := ce Q f
    unfold F_X3_appraise_b146
    have hy := e_X4_yearsHeld (y := i_div d 365) k2.1 k2.2.1 k2.2.2 (l := Q 148 c) (p := Q 147 c) (by omega) (by omega) (by rw [i_div_e (by omega) (by omega)]; omega)
    rw [x_hd_c k3 (k4 174 _ rfl), i_div_e (by omega) (by omega), k5, k6] at hy
    refine b_Wg hc ?_
    rw [k5, k6, i_div_e (by omega) (by omega)]
    refine b_We hy (b_Wg hv (b_We (told Q f 5 (by decide)) (b_Wi (fun q => b_Ws ⟨?_, rfl⟩) (fun q => b_Ws ⟨?_, rfl⟩))))
    · rw [if_pos q]
    · rw [if_neg q]
  have fP : b_fr W_X3_appraise M P := b_fr_mo (by decide +kernel) z1
  have fin : ∀ g w u, (u = 0 ∨ u = 1) → (u = 0 ↔ a = -1) → g = Wg a (P 140) → w = Ww a (P 140) → b_wp (F_X3_appraise_b81 c d (12 + (x_act M d).toNat) u w (b_up P 9 13 g)) (fun o => ∃ a F, Sr M d (M 148 c) (M 147 c) a F ∧ o.1 = Wo M d (M 148 c) (M 147 c) a F ∧ o.2 9 13 = Wg a F ∧ o.2 9 14 = Ww a F) := by
    intro g w u hu hua hg hw
    unfold F_X3_appraise_b81
    refine b_Wl ?_
    generalize hQ : b_up (b_up P 9 13 g) 9 14 w = Q
    have fQ : b_fr W_X3_appraise M Q := by
      subst hQ
      exact b_frF (b_frF fP (by decide)) (by decide)
    have q13 : Q 9 13 = g := by subst hQ; rw [b_upi (by decide), b_ups]
    have q14 : Q 9 14 = w := by subst hQ; rw [b_ups]
    clear hQ
    have out : ∀ x, x = Wo M d (M 148 c) (M 147 c) a (P 140) → ∃ a F, Sr M d (M 148 c) (M 147 c) a F ∧ (x, Q).1 = Wo M d (M 148 c) (M 147 c) a F ∧ (x, Q).2 9 13 = Wg a F ∧ (x, Q).2 9 14 = Ww a F := fun x hx => ⟨a, P 140, z2, hx, q13.trans hg, q14.trans hw⟩
    have out3 : ¬ (a ≠ -1 ∧ P 140 0 ≤ x_rule M d 3 ∧ x_rule M d 1 ≤ P 140 1) → ¬ (a ≠ -1 ∧ P 140 0 ≤ x_rule M d 3 ∧ x_rule M d 2 ≤ P 140 1) → b_wp (F_X3_appraise_b146 c d (12 + (x_act M d).toNat) Q) (fun o => ∃ a F, Sr M d (M 148 c) (M 147 c) a F ∧ o.1 = Wo M d (M 148 c) (M 147 c) a F ∧ o.2 9 13 = Wg a F ∧ o.2 9 14 = Ww a F) := by
      intro n1 n2
      refine b_wp_m (fun o z => ?_) (b146 Q fQ)
      obtain ⟨x, O⟩ := o
      dsimp only at z
      obtain ⟨z3, rfl⟩ := z
      exact out x (by rw [z3, Wo_3 n1 n2])
    unfold F_X3_appraise_b105 F_X3_appraise_b106 F_X3_appraise_b127
    by_cases qa : a = -1
    · exact b_Wt (hua.mpr qa) (b_Wt rfl (b_Wt rfl (out3 (fun z => z.1 qa) (fun z => z.1 qa))))
    · have u0 : ¬ u = 0 := fun z => qa (hua.mp z)
      have g1 : g = P 140 0 := by rw [hg]; exact if_neg qa
      have w1 : w = P 140 1 := by rw [hw]; exact if_neg qa
      refine b_Wf u0 (b_Wg hv (b_We (told Q fQ 3 (by decide)) ?_))
      rw [q13, q14, g1, w1]
      refine b_Wi (fun q => b_Wt rfl (b_Wt rfl (out3 (fun z => by have := z.2.1; omega) (fun z => by have := z.2.1; omega)))) (fun q => b_Wf (by decide) (b_Wg hv (b_We (told Q fQ 1 (by decide)) (b_Wi (fun q2 => b_Wf (by decide) (b_Wg hv (b_We (told Q fQ 2 (by decide)) (b_Wi (fun q3 => ?_) (fun q3 => b_Ws ?_))))) (fun q2 => b_Ws ?_)))))
      · exact out3 (fun z => by have := z.2.2; omega) (fun z => by have := z.2.2; omega)
      · refine out 2 ?_
        unfold Wo
        rw [if_neg (fun z => by have := z.2.2; omega), if_pos ⟨qa, by omega, by omega⟩]
      · refine out 1 ?_
        unfold Wo
        rw [if_pos ⟨qa, by omega, by omega⟩]
  unfold F_X3_appraise_b37 F_X3_appraise_b59
  refine b_Wtwo (b_Wi (fun q => b_Wt rfl (b_Wl (b_Wt rfl (fin 99 0 0 (Or.inl rfl) ⟨fun _ => q, fun _ => rfl⟩ (if_pos q).symm (if_pos q).symm)))) (fun q => b_Wf (by decide) (b_Wl (b_Wf (by decide) ?_))))
  rw [b_upc (by decide)]
  exact fin _ _ 1 (Or.inr rfl) ⟨fun z => absurd z (by decide), fun z => absurd z q⟩ (if_neg q).symm (if_neg q).symm
