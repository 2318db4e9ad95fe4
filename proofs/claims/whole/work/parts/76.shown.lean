def Eo (M : bM) (d : Int) : Prop := Ko M d ∧ ∀ b, 0 ≤ b → b < M 11 52 → Of M d b M
/-- what the reference's evidence rests on besides -/
def P_all (M : bM) : Prop := 1 ≤ M 11 54 ∧ R_prog M ∧ R_marks M
theorem P_all_k {W : bW} {M N : bM} (h : b_fr W M N) (d1 : b_dis W [(11, some 54)] = true) (d2 : b_dis W S_prog = true) (d3 : b_dis W S_marks = true) (hP : P_all M) : P_all N := by
  have k := b_kp1 h d1
  exact ⟨by rw [k 11 54 rfl]; exact hP.1, R_prog_k (b_kp1 h d2) hP.2.1, R_marks_k (b_kp1 h d3) hP.2.2⟩
theorem Ko_c {M N : bM} {d : Int} (hs : SS M N) (h12 : N 11 12 = M 11 12) (h168 : N 168 = M 168) (h : Ko M d) : Ko N d := by
  unfold Ko at h ⊢
  rw [sp_lab hs, h12, h168]
  exact h
def W_mk : bW := [(208, none), (214, none), (215, none)]
theorem t_mks {M : bM} {d : Int} (hE : E_all M) (hP : P_all M) (hK : Ko M d) : b_wp (b_loop (fun t : Int × bM => F_X12_makeShown_s7 d t.1 t.2) (0, M)) (fun N => b_fr W_mk M N ∧ O_b N d) := by
  have s1 := hE.2.2.2.1.1
  have hw : ∀ k, 0 ≤ k → k < M 5 0 → 0 ≤ x_wt M (x_act M d) k ∧ x_wt M (x_act M d) k ≤ 99 := by
    intro k k0 k1
    have h := x_act_r (d := d) hE.2.2.2.2.2.2.1
    have := hE.2.2.2.2.2.2.2.1 k k0 k1 (x_act M d) h.1 h.2.1
    omega
  refine b_loop_ind (I := fun t : Int × bM => (0 ≤ t.1 ∧ t.1 ≤ M 5 0) ∧ b_fr W_mk M t.2 ∧ ∀ k, 0 ≤ k → k < t.1 → (t.2 214 k = 0 ∨ t.2 214 k = 1) ∧ (t.2 214 k = 1 ↔ x_C M d k) ∧ t.2 215 k = x_wt M (x_act M d) k) (fun t => (M 5 0 - t.1).toNat) ?_ (0, M) ⟨by dsimp only; omega, b_fr_refl, fun k k0 k1 => by dsimp only at k1; omega⟩
  intro ⟨k, P⟩ ⟨h1, h2, h3⟩
  dsimp only at h1 h2 h3 ⊢
  have ss : SS M P := b_kp1 h2 (by decide +kernel)
  have hEP : E_all P := E_all_k h2 (by decide +kernel) (by decide +kernel) (by decide +kernel) (by decide +kernel) (by decide +kernel) (by decide +kernel) (by decide +kernel) (by decide +kernel) (by decide +kernel) (by decide +kernel) hE
  have hPP : P_all P := P_all_k h2 (by decide +kernel) (by decide +kernel) (by decide +kernel) hP
  have hKP : Ko P d := Ko_c ss (h2 11 12 (by decide)) (funext fun i => h2 168 i rfl) hK
  have sP := hEP.2.2.2.1.1
  have k53 : P 11 53 = M 11 53 := h2 11 53 (by decide)
  have k199 : P 199 k = M 199 k := h2 199 k rfl
  have k5 : P 5 0 = M 5 0 := h2 5 0 (by decide)
  unfold F_X12_makeShown_s7
  rw [k53, k199]
  by_cases q : M 11 53 ≤ k
  · refine b_Wt q (b_Ws ⟨h2, hEP.1, hKP, hEP.2.2.2.1, hEP.2.2.2.2.1, hEP.2.2.2.2.2.2.1, fun j j0 j1 => ?_⟩)
    have h4 := h3 j j0 (by omega)
    have h5 := hw j j0 (by omega)
    rw [sp_wt ss, sp_act ss, h4.2.2]
    refine ⟨h4.1, h4.2.1.trans ?_, rfl, h5⟩
    unfold x_C
    rw [sp_cant ss, sp_c ss 199 (fun _ => rfl)]
  · have put : ∀ x, (x = 0 ∨ x = 1) → (x = 1 ↔ x_C M d k) → b_wp (F_X12_makeShown_b44 d k k x P) (Sum.elim (fun t : Int × bM => ((0 ≤ t.1 ∧ t.1 ≤ M 5 0) ∧ b_fr W_mk M t.2 ∧ ∀ k, 0 ≤ k → k < t.1 → (t.2 214 k = 0 ∨ t.2 214 k = 1) ∧ (t.2 214 k = 1 ↔ x_C M d k) ∧ t.2 215 k = x_wt M (x_act M d) k) ∧ (M 5 0 - t.1).toNat < (M 5 0 - k).toNat) (fun N => b_fr W_mk M N ∧ O_b N d)) := by
      intro x hx hx2
      unfold F_X12_makeShown_b44
      refine b_Wg (by omega) (b_Wl ?_)
      generalize hQ : b_up P 214 k x = Q
      have fQ : b_fr W_mk M Q := by subst hQ; exact b_frA h2 rfl
      have hEQ : E_all Q := E_all_k fQ (by decide +kernel) (by decide +kernel) (by decide +kernel) (by decide +kernel) (by decide +kernel) (by decide +kernel) (by decide +kernel) (by decide +kernel) (by decide +kernel) (by decide +kernel) hE
      have hPQ : P_all Q := P_all_k fQ (by decide +kernel) (by decide +kernel) (by decide +kernel) hP
      have ssQ : SS M Q := b_kp1 fQ (by decide +kernel)
      have sQ := hEQ.2.2.2.1.1
      refine b_Wb (b_wp_m (fun o y => ?_) (t_wo (d := d) (k := k) hEQ.2.2.2.2.2.2.1 hPQ.2.1 hPQ.2.2 (by omega) (by have := fQ 5 0 (by decide); omega)))
      obtain ⟨r, Q2⟩ := o
      obtain ⟨y1, y2⟩ := y
      dsimp only at y1 y2
      rw [sp_wt ssQ, sp_act ssQ] at y1
      refine b_Wtwo ?_
      dsimp only
      have fQ2 : b_fr W_mk M Q2 := fun c i hi => by
        have hc : c ≠ 208 := fun e => by subst e; revert hi; simp [b_ins, W_mk]
        rw [y2 c i hc]
        exact fQ c i hi
      refine b_Wg (by omega) (b_Wl (b_Wg (by omega) (b_Ws ⟨⟨by dsimp only; omega, ?_, fun j j0 j1 => ?_⟩, by dsimp only; omega⟩)))
      · dsimp only
        exact b_frA fQ2 rfl
      · dsimp only at j1 ⊢
        rw [b_upc (by decide), y2 214 j (by decide), b_upJ]
        have e215 : Q2 215 j = P 215 j := by rw [y2 215 j (by decide)]; subst hQ; exact b_upc (by decide)
        rw [e215]
        subst hQ
        rw [b_upJ]
        by_cases qj : j = k
        · subst qj
          rw [if_pos rfl, if_pos rfl]
          exact ⟨hx, hx2, y1⟩
        · rw [if_neg qj, if_neg qj]
          exact h3 j j0 (by omega)
    unfold F_X12_makeShown_b43
    refine b_Wf q (b_Wg (by omega) (b_Wi (fun q1 => put 0 (Or.inl rfl) ⟨fun z => absurd z (by decide), fun z => ?_⟩) (fun q1 => b_We (e_X12_cantOf hEP.1 hEP.2.2.1 hEP.2.2.2.1 hEP.2.2.2.2.1 hPP.1 hKP (by omega)) (b_Wi (fun q2 => put 1 (Or.inr rfl) ⟨fun _ => ?_, fun _ => rfl⟩) (fun q2 => put 0 (Or.inl rfl) ⟨fun z => absurd z (by decide), fun z => ?_⟩)))))
    · have := z.1
      omega
    · rw [sp_cant ss] at q2
      exact ⟨by omega, q2⟩
    · rw [sp_cant ss] at q2
      exact absurd z.2 q2
theorem t_made {M : bM} {d : Int} (hE : E_all M) (hP : P_all M) : b_wp (F_X12_makeShown d M) (fun N => b_fr W_X12_makeShown M N ∧ E_all N ∧ P_all N ∧ Eo N d) := by
  refine b_wp_m (fun N w => ?_) (b_wl_wp (w_X12_makeShown b_fr_refl) (K := fun N => Eo N d) ?_)
  · exact ⟨w.1, E_all_k w.1 (by decide +kernel) (by decide +kernel) (by decide +kernel) (by decide +kernel) (by decide +kernel) (by decide +kernel) (by decide +kernel) (by decide +kernel) (by decide +kernel) (by decide +kernel) hE, P_all_k w.1 (by decide +kernel) (by decide +kernel) (by decide +kernel) hP, w.2⟩
  · unfold F_X12_makeShown
    refine b_Wb (b_wp_m (fun N1 y => ?_) (t_mko (d := d) (T_ok_of hE.1)))
    obtain ⟨y1, y2, y3⟩ := y
    have fr : b_fr W_X12_makeOnes M N1 := fun c i hi => y1 c i (fun q => by subst q; revert hi; simp [b_ins, W_X12_makeOnes])
    have hE1 : E_all N1 := E_all_k fr (by decide +kernel) (by decide +kernel) (by decide +kernel) (by decide +kernel) (by decide +kernel) (by decide +kernel) (by decide +kernel) (by decide +kernel) (by decide +kernel) (by decide +kernel) hE
    have hP1 : P_all N1 := P_all_k fr (by decide +kernel) (by decide +kernel) (by decide +kernel) hP
    refine b_Wb (b_wp_m (fun N2 z => ?_) (t_mks hE1 hP1 y3))
    obtain ⟨z1, z2⟩ := z
    have b1 := hE1.2.2.2.2.2.2.2.2
    have k52 : N2 11 52 = N1 11 52 := z1 11 52 (by decide)
    have k60 : N1 6 0 = M 6 0 := y1 6 0 (by decide)
    refine b_wp_m (fun N3 x => ?_) (t_made2 z2 (by have := b1.1; have := b1.2; omega))
    obtain ⟨x1, x2⟩ := x
    have fr3 : b_fr [(209, none), (210, none), (211, none), (212, none), (213, none), (216, none)] N2 N3 := fun c i hi => x1 c i (fun q => by subst q; revert hi; simp [b_ins]) (fun q => by subst q; revert hi; simp [b_ins]) (fun q => by subst q; revert hi; simp [b_ins]) (fun q => by subst q; revert hi; simp [b_ins]) (fun q => by subst q; revert hi; simp [b_ins]) (fun q => by subst q; revert hi; simp [b_ins])
    have ss3 : SS N2 N3 := b_kp1 fr3 (by decide +kernel)
    refine ⟨Ko_c ss3 (fr3 11 12 (by decide)) (funext fun i => fr3 168 i rfl) z2.2.1, fun b b0 b1 => ?_⟩
    rw [fr3 11 52 (by decide)] at b1
    exact sp_Of ss3 (x2 b b0 b1)
theorem e_pts {M P : bM} {d b : Int} (hO : Of M d b P) (hb : 0 ≤ b ∧ b < 30) : F_X12_pointsOf b P = some (min (P 210 (3 * b)) (min (P 210 (3 * b + 1)) (P 210 (3 * b + 2)))) := by
  refine b_eqn ?_
  obtain ⟨v0, p0, q0, v1, p1, q1, v2, p2, q2, f0, f1, f2, a0, a1, a2, c0, c1, c2, _⟩ := hO
  have g0 := x_fin_p f0
  have g1 := x_fin_p f1
  have g2 := x_fin_p f2
  unfold F_X12_pointsOf
  refine b_Wb (b_Wloop ?_)
  unfold F_X12_pointsOf_s2
  rw [show 3 * b + 0 = 3 * b by omega, a0]
  refine b_Wf (by omega) (b_Wg (by omega) (b_Wi (fun q => b_Ws (show (0 : Int) = _ from ?_)) (fun q => b_Wg (by omega) (b_Ws ?_))))
  · have := g0.1 q
    omega
  show b_wp _ _
  refine b_Wloop ?_
  rw [show 3 * b + (0 + 1) = 3 * b + 1 by omega, a1]
  refine b_Wf (by omega) (b_Wg (by omega) (b_Wi (fun q => b_Ws (show (0 : Int) = _ from ?_)) (fun q => b_Wg (by omega) (b_Ws ?_))))
  · have := g1.1 q
    omega
  show b_wp _ _
  refine b_Wloop ?_
  rw [show 3 * b + (0 + 1 + 1) = 3 * b + 2 by omega, a2]
  refine b_Wf (by omega) (b_Wg (by omega) (b_Wi (fun q => b_Ws (show (0 : Int) = _ from ?_)) (fun q => b_Wg (by omega) (b_Ws ?_))))
  · have := g2.1 q
    omega
  show b_wp _ _
  refine b_Wloop ?_
  refine b_Wt (by omega) (b_Ws ?_)
  show b_wp (F_X12_pointsOf_b29 b P) _
  unfold F_X12_pointsOf_b29
  exact b_Wg (by omega) (b_We E_X12_lesser (b_We E_X12_lesser (b_Ws rfl)))
/-- both see the same -/
theorem EO_eq {M P : bM} {d b : Int} {F : Int → Int} (hE : Ef M d b F) (hO : Of M d b P) : F (10 * b) = P 209 (3 * b) ∧ F (10 * b + 1) = P 209 (3 * b + 1) ∧ F (10 * b + 2) = P 209 (3 * b + 2) ∧ F (10 * b + 3) = P 211 b ∧ F (10 * b + 4) = P 212 b ∧ F (10 * b + 5) = P 210 (3 * b) ∧ F (10 * b + 6) = P 210 (3 * b + 1) ∧ F (10 * b + 7) = P 210 (3 * b + 2) ∧ F (10 * b + 8) = min (P 210 (3 * b)) (min (P 210 (3 * b + 1)) (P 210 (3 * b + 2))) ∧ F (10 * b + 9) = P 213 b := by
  obtain ⟨v0, p0, q0, v1, p1, q1, v2, p2, q2, f0, f1, f2, a0, a1, a2, a3, a4, a5, a6, a7, a8, a9⟩ := hE
  obtain ⟨w0, r0, s0, w1, r1, s1, w2, r2, s2, g0, g1, g2, b0, b1, b2, c0, c1, c2, c3, c4, c5⟩ := hO
  obtain ⟨rfl, rfl, rfl⟩ := x_fin_u f0 g0
  obtain ⟨rfl, rfl, rfl⟩ := x_fin_u f1 g1
  obtain ⟨rfl, rfl, rfl⟩ := x_fin_u f2 g2
  rw [a0, a1, a2, a3, a4, a5, a6, a7, a8, a9, b0, b1, b2, c0, c1, c2, c3, c4, c5]
  exact ⟨rfl, rfl, rfl, rfl, rfl, rfl, rfl, rfl, rfl, rfl⟩
theorem e_X4_fact {M : bM} {b w : Int} (hb : 0 ≤ b ∧ b < M 6 0) (h6 : M 6 0 ≤ 30) (hw : 0 ≤ w ∧ w < 10) : F_X4_fact b w M = some (M 126 (10 * b + w)) := by
  unfold F_X4_fact
  rw [if_neg (by omega), if_neg (by omega), if_neg (by omega), if_neg (by omega), b_g_s (by omega), show b * 10 + w = 10 * b + w by omega]
theorem op_shown {b d w : Int} {M : bM} (hE : E_all M) (hV : R_ev M) (hP : P_all M) : b_wp (F_X11_shown b d w M) (fun o => b_wp (F_X12_shown b d w o.2) (fun o2 => o.1 = o2.1 ∧ E_all o2.2 ∧ R_ev o2.2 ∧ P_all o2.2)) := by
  have hb0 := hE.2.2.2.2.2.2.2.2
  obtain ⟨g1, g2, g3⟩ := hb0
  unfold F_X11_shown F_X12_shown
  by_cases q : 0 ≤ b ∧ b < M 6 0
  · by_cases q1 : 0 ≤ d ∧ d ≤ 9999
    · by_cases q2 : 0 ≤ w ∧ w ≤ 9
      · refine b_Wf (by omega) (b_Wf (by omega) (b_We e_X11_isDay (b_Wf (by rw [b_01_0]; omega) (b_Wf (by omega) (b_Wt (by omega) (b_Wb (b_wp_m (fun N y => ?_) (t_ev hE hV q1))))))))
        obtain ⟨y1, y2, y3, y4, y5⟩ := y
        have n6 : N 6 0 = M 6 0 := y1 6 0 (by decide)
        have n52 : N 11 52 = M 11 52 := y1 11 52 (by decide)
        have hPN : P_all N := P_all_k y1 (by decide +kernel) (by decide +kernel) (by decide +kernel) hP
        refine b_We (e_X4_fact (by omega) (by omega) (by omega)) (b_Ws ?_)
        dsimp only
        refine b_Wg (by omega) (b_We e_X12_in (b_Wf (by rw [b_01_0]; omega) (b_We e_X12_isDay (b_Wf (by rw [b_01_0]; omega) (b_We e_X12_in (b_Wf (by rw [b_01_0]; omega) (b_Wb (b_wp_m (fun P z => ?_) (t_made (d := d) y2 hPN)))))))))
        obtain ⟨z1, z2, z3, z4⟩ := z
        have p52 : P 11 52 = N 11 52 := z1 11 52 (by decide)
        have ss : SS N P := b_kp1 z1 (by decide +kernel)
        have hO := z4.2 b q.1 (by omega)
        have hF := sp_Ef ss (y5.2.2.2 b q.1 (by omega))
        have he := EO_eq hF hO
        have hpt := e_pts hO (by omega)
        have hV2 : R_ev P := R_ev_k (b_kp1 z1 (by decide +kernel)) y3
        obtain ⟨u0, u1, u2, u3, u4, u5, u6, u7, u8, u9⟩ := he
        have hw9 : w = 0 ∨ w = 1 ∨ w = 2 ∨ w = 3 ∨ w = 4 ∨ w = 5 ∨ w = 6 ∨ w = 7 ∨ w = 8 ∨ w = 9 := by omega
        unfold F_X12_shown_b65
        rcases hw9 with rfl | rfl | rfl | rfl | rfl | rfl | rfl | rfl | rfl | rfl
        · refine b_Wf (by decide) (b_Wg (by omega) (b_Ws ⟨?_, z2, hV2, z3⟩))
          dsimp only
          rw [show 10 * b + 0 = 10 * b by omega, show 3 * b + 0 = 3 * b by omega]; exact u0
        · exact b_Wf (by decide) (b_Wg (by omega) (b_Ws ⟨u1, z2, hV2, z3⟩))
        · exact b_Wf (by decide) (b_Wg (by omega) (b_Ws ⟨u2, z2, hV2, z3⟩))
        · exact b_Wt (by decide) (b_Wt rfl (b_Wt rfl (b_Wg (by omega) (b_Ws ⟨u3, z2, hV2, z3⟩))))
        · exact b_Wt (by decide) (b_Wf (by decide) (b_Wt rfl (b_Wf (by decide) (b_Wg (by omega) (b_Ws ⟨u4, z2, hV2, z3⟩)))))
        · refine b_Wt (by decide) (b_Wf (by decide) (b_Wf (by decide) (b_Wf (by decide) (b_Wg (by omega) (b_Ws ⟨?_, z2, hV2, z3⟩)))))
          dsimp only
          rw [show 3 * b + 5 - 5 = 3 * b by omega]; exact u5
        · refine b_Wt (by decide) (b_Wf (by decide) (b_Wf (by decide) (b_Wf (by decide) (b_Wg (by omega) (b_Ws ⟨?_, z2, hV2, z3⟩)))))
          dsimp only
          rw [show 3 * b + 6 - 5 = 3 * b + 1 by omega]; exact u6
        · refine b_Wt (by decide) (b_Wf (by decide) (b_Wf (by decide) (b_Wf (by decide) (b_Wg (by omega) (b_Ws ⟨?_, z2, hV2, z3⟩)))))
          dsimp only
          rw [show 3 * b + 7 - 5 = 3 * b + 2 by omega]; exact u7
        · exact b_Wt (by decide) (b_Wf (by decide) (b_Wf (by decide) (b_Wt (by decide) (b_Wt rfl (b_We hpt (b_Ws ⟨u8, z2, hV2, z3⟩))))))
        · exact b_Wt (by decide) (b_Wf (by decide) (b_Wf (by decide) (b_Wt (by decide) (b_Wf (by decide) (b_Wg (by omega) (b_Ws ⟨u9, z2, hV2, z3⟩))))))
      · refine b_Wf (by omega) (b_Wf (by omega) (b_We e_X11_isDay (b_Wf (by rw [b_01_0]; omega) (b_Wi (fun q3 => b_Ws ?_) (fun q3 => b_Wf (by omega) (b_Ws ?_))))))
        · dsimp only
          exact b_Wg (by omega) (b_We e_X12_in (b_Wf (by rw [b_01_0]; omega) (b_We e_X12_isDay (b_Wf (by rw [b_01_0]; omega) (b_We e_X12_in (b_Wt (by rw [b_01_0]; omega) (b_Ws ⟨rfl, hE, hV, hP⟩)))))))
        · dsimp only
          exact b_Wg (by omega) (b_We e_X12_in (b_Wf (by rw [b_01_0]; omega) (b_We e_X12_isDay (b_Wf (by rw [b_01_0]; omega) (b_We e_X12_in (b_Wt (by rw [b_01_0]; omega) (b_Ws ⟨rfl, hE, hV, hP⟩)))))))
    · refine b_Wf (by omega) (b_Wf (by omega) (b_We e_X11_isDay (b_Wt (by rw [b_01_0]; omega) (b_Ws ?_))))
      dsimp only
      exact b_Wg (by omega) (b_We e_X12_in (b_Wf (by rw [b_01_0]; omega) (b_We e_X12_isDay (b_Wt (by rw [b_01_0]; omega) (b_Ws ⟨rfl, hE, hV, hP⟩)))))
  · refine b_Wi (fun q3 => b_Ws ?_) (fun q3 => b_Wt (by omega) (b_Ws ?_))
    · dsimp only
      exact b_Wg (by omega) (b_We e_X12_in (b_Wt (by rw [b_01_0]; omega) (b_Ws ⟨rfl, hE, hV, hP⟩)))
    · dsimp only
      exact b_Wg (by omega) (b_We e_X12_in (b_Wt (by rw [b_01_0]; omega) (b_Ws ⟨rfl, hE, hV, hP⟩)))
