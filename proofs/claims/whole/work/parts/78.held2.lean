def W_208 : bW := [(208, none)]
theorem fr_208 {M P : bM} (h : ∀ c j, c ≠ 208 → P c j = M c j) : b_fr W_208 M P := fun c i hi => h c i (fun q => by subst q; revert hi; simp [b_ins, W_208])
theorem EPK_208 {M P : bM} {d : Int} (h : ∀ c j, c ≠ 208 → P c j = M c j) (hE : E_all M) (hP : P_all M) (hK : Ko M d) : E_all P ∧ P_all P ∧ Ko P d ∧ SS M P := by
  have f := fr_208 h
  have ss : SS M P := SS_208 h
  exact ⟨E_all_k f (by decide +kernel) (by decide +kernel) (by decide +kernel) (by decide +kernel) (by decide +kernel) (by decide +kernel) (by decide +kernel) (by decide +kernel) (by decide +kernel) (by decide +kernel) hE, P_all_k f (by decide +kernel) (by decide +kernel) (by decide +kernel) hP, Ko_c ss (h 11 12 (by decide)) (funext fun i => h 168 i (by decide)) hK, ss⟩
theorem t_h23 {M N : bM} {d l p y v : Int} (hE : E_all M) (hP : P_all M) (hK : Ko M d) (hN : ∀ c j, c ≠ 208 → N c j = M c j) (hl : 0 ≤ l ∧ l < M 3 0) (hp : 0 ≤ p ∧ p < M 2 0) (hy : 0 ≤ y ∧ y ≤ 27) : b_wp (b_loop (fun t : Int × Int × bM => F_X12_heldOf_s23 l p d v y t.1 t.2.1 t.2.2) (0, 0, N)) (fun o => (∀ c j, c ≠ 208 → o.2 c j = M c j) ∧ (o.1 = 0 ∨ o.1 = 1) ∧ (o.1 = 1 ↔ x_tx M d l p y)) := by
  have s1 := hE.2.2.2.1.1
  have l1 := hE.2.2.1.1
  have r1 := hE.1.1
  refine b_loop_ind (I := fun s : Int × Int × bM => (0 ≤ s.2.1 ∧ s.2.1 ≤ M 11 53) ∧ (∀ c j, c ≠ 208 → s.2.2 c j = M c j) ∧ (s.1 = 0 ∨ s.1 = 1) ∧ (s.1 = 1 → x_tx M d l p y) ∧ (s.1 = 0 → ∀ k, 0 ≤ k → k < s.2.1 → ¬ (x_ty M d l p k ∧ M 197 k ≤ 365 * y + 364 ∧ 365 * y ≤ M 198 k))) (fun s => (M 11 53 - s.2.1).toNat) ?_ (0, 0, N) ⟨by dsimp only; omega, hN, Or.inl rfl, fun z => absurd z (show ¬ (0 : Int) = 1 by decide), fun _ k k0 k1 => by dsimp only at k1; omega⟩
  intro ⟨a, k, P⟩ ⟨h1, h2, h3, h4, h5⟩
  dsimp only at h1 h2 h3 h4 h5 ⊢
  unfold F_X12_heldOf_s23
  rw [h2 11 53 (by decide), h2 196 (3 * k + 2) (by decide), h2 194 k (by decide), h2 199 k (by decide), h2 174 l (by decide), h2 196 (3 * k + 1) (by decide), h2 197 k (by decide), h2 198 k (by decide), h2 168 p (by decide), h2 168 (M 196 (3 * k + 1)) (by decide)]
  by_cases q : M 11 53 ≤ k
  · refine b_Wt q (b_Ws ⟨h2, h3, h4, fun ⟨j, hj, g⟩ => ?_⟩)
    rcases h3 with z | z
    · exact absurd g (h5 z j hj.1 (by omega))
    · exact z
  · refine b_Wf q (b_Wi (fun q0 => ?_) (fun q0 => b_Ws ⟨h2, h3, h4, fun _ => h3.resolve_left q0⟩))
    obtain ⟨p1, p2, p3, p4, p5, p6, p7, p8⟩ := hE.2.2.2.2.1 k h1.1 (by omega)
    have skip : ∀ P2 : bM, (∀ c j, c ≠ 208 → P2 c j = M c j) → ¬ (x_ty M d l p k ∧ M 197 k ≤ 365 * y + 364 ∧ 365 * y ≤ M 198 k) → ((0 ≤ k + 1 ∧ k + 1 ≤ M 11 53) ∧ (∀ c j, c ≠ 208 → P2 c j = M c j) ∧ ((0 : Int) = 0 ∨ (0 : Int) = 1) ∧ ((0 : Int) = 1 → x_tx M d l p y) ∧ ((0 : Int) = 0 → ∀ k', 0 ≤ k' → k' < k + 1 → ¬ (x_ty M d l p k' ∧ M 197 k' ≤ 365 * y + 364 ∧ 365 * y ≤ M 198 k'))) ∧ (M 11 53 - (k + 1)).toNat < (M 11 53 - k).toNat := by
      intro P2 hP2 n
      refine ⟨⟨by omega, hP2, Or.inl rfl, fun z => absurd z (by decide), fun _ j j0 j1 => ?_⟩, by omega⟩
      by_cases qj : j = k
      · subst qj; exact n
      · exact h5 q0 j j0 (by omega)
    have lp := hK p hp.1 (by omega)
    refine b_Wg (by omega) (b_Wl (b_Wg (by omega) (b_Wi (fun q1 => b_Wg (by omega) (b_Wi (fun q2 => b_Wg (by omega) (b_Ws (skip P h2 (fun z => by have := z.1.2.1.1; omega)))) (fun q2 => b_Wi (fun q3 => b_Wg (by omega) (b_Ws (skip P h2 (fun z => z.1.2.2.1 q3)))) (fun q3 => b_Wg (by omega) (b_Wi (fun q4 => ?_) (fun q4 => b_Wg (by omega) (b_Ws (skip P h2 (fun z => q4 ?_))))))))) (fun q1 => b_Wg (by omega) (b_Ws (skip P h2 (fun z => q1 z.1.1)))))))
    · rw [j_tst (by omega)] at q4
      refine b_Wg (by omega) (b_Wi (fun q5 => b_Wg (by omega) (b_Ws (skip P h2 (fun z => z.1.2.2.2.2.1 q5)))) (fun q5 => b_Wg (by omega) ?_))
      have lg := hK (M 196 (3 * k + 1)) (by omega) (by omega)
      rw [lp, lg]
      refine b_Wi (fun q6 => b_Wg (by omega) (b_Wi (fun q7 => b_Wg (by omega) (b_Ws (skip P h2 (fun z => by have := z.2.1; omega)))) (fun q7 => b_Wg (by omega) (b_Wi (fun q8 => b_Wg (by omega) (b_Ws (skip P h2 (fun z => by have := z.2.2; omega)))) (fun q8 => ?_))))) (fun q6 => b_Wg (by omega) (b_Ws (skip P h2 (fun z => q6 z.1.2.2.2.2.2.1))))
      obtain ⟨eP, pP, kP, ss⟩ := EPK_208 h2 hE hP hK
      have sP := eP.2.2.2.1.1
      have n5 : P 5 0 = M 5 0 := h2 5 0 (by decide)
      refine b_Wb (b_wp_m (fun o yo => ?_) (t_wo (d := d) (k := k) eP.2.2.2.2.2.2.1 pP.2.1 pP.2.2 (by omega) (by omega)))
      obtain ⟨x, P2⟩ := o
      obtain ⟨y1, y2⟩ := yo
      dsimp only at y1 y2
      rw [sp_wt ss, sp_act ss] at y1
      have h2' : ∀ c j, c ≠ 208 → P2 c j = M c j := fun c j hc => by rw [y2 c j hc]; exact h2 c j hc
      obtain ⟨eP2, pP2, kP2, ss2⟩ := EPK_208 h2' hE hP hK
      have n52 : P2 5 0 = M 5 0 := h2' 5 0 (by decide)
      refine b_Wtwo ?_
      dsimp only
      refine b_Wi (fun q9 => b_Wg (by omega) (b_Ws (skip P2 h2' (fun z => by have := z.1.2.2.2.2.2.2; omega)))) (fun q9 => b_We (e_X12_cantOf eP2.1 eP2.2.2.1 eP2.2.2.2.1 eP2.2.2.2.2.1 pP2.1 kP2 (by omega)) ?_)
      rw [sp_cant ss2]
      refine b_Wi (fun q10 => b_Wg (by omega) (b_Ws ⟨⟨by dsimp only; omega, h2', Or.inr rfl, fun _ => ⟨k, by omega, ⟨q1, ⟨by omega, q10⟩, q3, q4, q5, q6, by omega⟩, by omega, by omega⟩, fun z => absurd z (show ¬ (1 : Int) = 0 by decide)⟩, by dsimp only; omega⟩)) (fun q10 => b_Wg (by omega) (b_Ws (skip P2 h2' (fun z => q10 z.1.2.1.2))))
    · rw [j_tst (by omega)]
      exact z.1.2.2.2.1
theorem t_heldOf {M : bM} {d l p y : Int} (hE : E_all M) (hP : P_all M) (hl : 0 ≤ l ∧ l < M 3 0) (hp : 0 ≤ p ∧ p < M 2 0) (hy : 0 ≤ y ∧ y ≤ 27) : b_wp (F_X12_heldOf l p y d M) (fun o => o.1 = x_hd M d l p (y + 1).toNat ∧ ∀ c j, c ≠ 208 → c ≠ 168 → o.2 c j = M c j) := by
  unfold F_X12_heldOf
  refine b_Wb (b_wp_m (fun N1 z => ?_) (t_mko (d := d) (T_ok_of hE.1)))
  obtain ⟨z1, z2, z3⟩ := z
  have fr : b_fr W_X12_makeOnes M N1 := fun c i hi => z1 c i (fun q => by subst q; revert hi; simp [b_ins, W_X12_makeOnes])
  have hE1 : E_all N1 := E_all_k fr (by decide +kernel) (by decide +kernel) (by decide +kernel) (by decide +kernel) (by decide +kernel) (by decide +kernel) (by decide +kernel) (by decide +kernel) (by decide +kernel) (by decide +kernel) hE
  have hP1 : P_all N1 := P_all_k fr (by decide +kernel) (by decide +kernel) (by decide +kernel) hP
  have ss : SS M N1 := b_kp1 fr (by decide +kernel)
  have hd : ∀ y, x_tx N1 d l p y ↔ x_tx M d l p y := by
    intro y
    unfold x_tx
    simp only [x_ty, x_C, sp_wt ss, sp_act ss, sp_cant ss, sp_lab ss, sp_c ss 194 (fun _ => rfl), sp_c ss 196 (fun _ => rfl), sp_c ss 197 (fun _ => rfl), sp_c ss 198 (fun _ => rfl), sp_c ss 199 (fun _ => rfl), ss 5 0 rfl, z1 174 l (by decide)]
  have n3 : N1 3 0 = M 3 0 := z1 3 0 (by decide)
  have n2 : N1 2 0 = M 2 0 := z1 2 0 (by decide)
  refine b_Wb (b_wp_m (fun o w => ?_) (b_loop_ind (P := Sum.elim (fun t : Int × bM => t.1 = x_hd M d l p (y + 1).toNat ∧ ∀ c j, c ≠ 208 → t.2 c j = N1 c j) (fun t : Int × bM => t.1 = x_hd M d l p (y + 1).toNat ∧ ∀ c j, c ≠ 208 → t.2 c j = N1 c j)) (I := fun s : Int × Int × bM => (-1 ≤ s.2.1 ∧ s.2.1 ≤ 27) ∧ (0 ≤ s.1 ∧ s.1 ≤ 27 - s.2.1) ∧ (∀ c j, c ≠ 208 → s.2.2 c j = N1 c j) ∧ s.1 + x_hd M d l p (s.2.1 + 1).toNat = x_hd M d l p (y + 1).toNat) (fun s => (s.2.1 + 1).toNat) ?_ (0, y, N1) ⟨by dsimp only; omega, by dsimp only; omega, fun _ _ _ => rfl, by dsimp only; omega⟩))
  · have fin : ∀ t : Int × bM, (t.1 = x_hd M d l p (y + 1).toNat ∧ ∀ c j, c ≠ 208 → t.2 c j = N1 c j) → (t.1 = x_hd M d l p (y + 1).toNat ∧ ∀ c j, c ≠ 208 → c ≠ 168 → t.2 c j = M c j) := fun t ht => ⟨ht.1, fun c j c1 c2 => by rw [ht.2 c j c1]; exact z1 c j c2⟩
    cases o with
    | inl t =>
      show b_wp (F_X12_heldOf_b225 t.1 t.2) _
      unfold F_X12_heldOf_b225
      exact b_Ws (fin t w)
    | inr t => exact fin t w
  · intro ⟨a, v, P⟩ ⟨h1, h2, h3, h4⟩
    dsimp only at h1 h2 h3 h4 ⊢
    unfold F_X12_heldOf_s12
    by_cases q : v < 0
    · refine b_Wt q (b_Ws ⟨?_, h3⟩)
      dsimp only
      rw [← h4, show v = -1 by omega]
      show a = a + 0
      omega
    · refine b_Wf q (b_Wb (b_wp_m (fun o w => ?_) (t_h23 (v := a) hE1 hP1 z3 h3 (by omega) (by omega) (by omega))))
      obtain ⟨x, P2⟩ := o
      obtain ⟨w1, w2, w3⟩ := w
      dsimp only at w1 w2 w3
      rw [hd v] at w3
      dsimp only
      unfold F_X12_heldOf_b208
      refine b_Wi (fun q1 => b_Ws ⟨?_, w1⟩) (fun q1 => b_Wg (by omega) (b_Ws ⟨⟨by dsimp only; omega, by dsimp only; omega, w1, ?_⟩, by dsimp only; omega⟩))
      · have : ¬ x_tx M d l p v := fun z => by have := w3.mpr z; omega
        rw [x_hd_0 (by omega) this] at h4
        dsimp only
        omega
      · have : x_tx M d l p v := w3.mp (by omega)
        rw [x_hd_1 (by omega) this] at h4
        dsimp only
        rw [show v + -1 + 1 = v by omega]
        omega
theorem x_hd_c {M N : bM} {d l p : Int} (ss : SS M N) (h : N 174 l = M 174 l) : ∀ n, x_hd N d l p n = x_hd M d l p n := by
  have hd : ∀ y, x_tx N d l p y ↔ x_tx M d l p y := by
    intro y
    unfold x_tx
    simp only [x_ty, x_C, sp_wt ss, sp_act ss, sp_cant ss, sp_lab ss, sp_c ss 194 (fun _ => rfl), sp_c ss 196 (fun _ => rfl), sp_c ss 197 (fun _ => rfl), sp_c ss 198 (fun _ => rfl), sp_c ss 199 (fun _ => rfl), ss 5 0 rfl, h]
  intro n
  induction n with
  | zero => rfl
  | succ n ih =>
    have e : ((n : Int) + 1).toNat = n + 1 := by omega
    have e2 : ((n : Int)).toNat = n := by omega
    by_cases q : x_tx M d l p n
    · have a1 := x_hd_1 (by omega) q
      have a2 := x_hd_1 (by omega) ((hd n).mpr q)
      rw [e, e2] at a1 a2
      rw [a1, a2, ih]
    · have a1 := x_hd_0 (by omega) q
      have a2 := x_hd_0 (by omega) (fun z => q ((hd n).mp z))
      rw [e] at a1 a2
      rw [a1, a2]
theorem op_held {l p y d : Int} {M : bM} (hE : E_all M) (hV : R_ev M) (hP : P_all M) : b_wp (F_X11_held l p y d M) (fun o => b_wp (F_X12_held l p y d o.2) (fun o2 => o.1 = o2.1 ∧ E_all o2.2 ∧ R_ev o2.2 ∧ P_all o2.2)) := by
  have r1 := hE.1.1
  have l1 := hE.2.2.1.1
  unfold F_X11_held F_X12_held
  by_cases q : 0 ≤ l ∧ l < M 3 0
  · by_cases q0 : 0 ≤ p ∧ p < M 2 0
    · by_cases q2 : 0 ≤ y ∧ y ≤ 27
      · by_cases q1 : 0 ≤ d ∧ d ≤ 9999
        · refine b_We e_X5_has (b_Wf (by rw [b_01_0]; omega) (b_We e_X8_has (b_Wf (by rw [b_01_0]; omega) (b_Wf (by omega) (b_Wf (by omega) (b_We e_X11_isDay (b_Wf (by rw [b_01_0]; omega) (b_Wb (b_wp_m (fun N w => ?_) (t_ev hE hV q1))))))))))
          obtain ⟨y1, y2, y3, y4, y5⟩ := w
          have n3 : N 3 0 = M 3 0 := y1 3 0 (by decide)
          have n2 : N 2 0 = M 2 0 := y1 2 0 (by decide)
          have r2 := y2.1.1
          have l2 := y2.2.2.1.1
          have hPN : P_all N := P_all_k y1 (by decide +kernel) (by decide +kernel) (by decide +kernel) hP
          refine b_We (e_X4_yearsHeld y2 y4 y5 (by omega) (by omega) q2) (b_Ws ?_)
          dsimp only
          refine b_We (e_X12_isLot (by omega)) (b_Wf (by rw [b_01_0]; omega) (b_We (e_X12_isPerson (by omega)) (b_Wf (by rw [b_01_0]; omega) (b_We e_X12_in (b_Wf (by rw [b_01_0]; omega) (b_We e_X12_isDay (b_Wf (by rw [b_01_0]; omega) (b_Wb (b_wp_m (fun o w => ?_) (t_heldOf (d := d) (l := l) (p := p) (y := y) y2 hPN (by omega) (by omega) q2))))))))))
          obtain ⟨x, P⟩ := o
          obtain ⟨w1, w2⟩ := w
          dsimp only at w1 w2
          have fr : b_fr [(168, none), (208, none)] N P := fun c i hi => w2 c i (fun q => by subst q; revert hi; simp [b_ins]) (fun q => by subst q; revert hi; simp [b_ins])
          refine b_Wtwo (b_Ws ⟨w1.symm, E_all_k fr (by decide +kernel) (by decide +kernel) (by decide +kernel) (by decide +kernel) (by decide +kernel) (by decide +kernel) (by decide +kernel) (by decide +kernel) (by decide +kernel) (by decide +kernel) y2, R_ev_k (b_kp1 fr (by decide +kernel)) y3, P_all_k fr (by decide +kernel) (by decide +kernel) (by decide +kernel) hPN⟩)
        · refine b_We e_X5_has (b_Wf (by rw [b_01_0]; omega) (b_We e_X8_has (b_Wf (by rw [b_01_0]; omega) (b_Wf (by omega) (b_Wf (by omega) (b_We e_X11_isDay (b_Wt (by rw [b_01_0]; omega) (b_Ws ?_))))))))
          dsimp only
          exact b_We (e_X12_isLot (by omega)) (b_Wf (by rw [b_01_0]; omega) (b_We (e_X12_isPerson (by omega)) (b_Wf (by rw [b_01_0]; omega) (b_We e_X12_in (b_Wf (by rw [b_01_0]; omega) (b_We e_X12_isDay (b_Wt (by rw [b_01_0]; omega) (b_Ws ⟨rfl, hE, hV, hP⟩))))))))
      · refine b_We e_X5_has (b_Wf (by rw [b_01_0]; omega) (b_We e_X8_has (b_Wf (by rw [b_01_0]; omega) (b_Wi (fun z => b_Ws ?_) (fun z => b_Wt (by omega) (b_Ws ?_))))))
        · dsimp only
          exact b_We (e_X12_isLot (by omega)) (b_Wf (by rw [b_01_0]; omega) (b_We (e_X12_isPerson (by omega)) (b_Wf (by rw [b_01_0]; omega) (b_We e_X12_in (b_Wt (by rw [b_01_0]; omega) (b_Ws ⟨rfl, hE, hV, hP⟩))))))
        · dsimp only
          exact b_We (e_X12_isLot (by omega)) (b_Wf (by rw [b_01_0]; omega) (b_We (e_X12_isPerson (by omega)) (b_Wf (by rw [b_01_0]; omega) (b_We e_X12_in (b_Wt (by rw [b_01_0]; omega) (b_Ws ⟨rfl, hE, hV, hP⟩))))))
    · refine b_We e_X5_has (b_Wf (by rw [b_01_0]; omega) (b_We e_X8_has (b_Wt (by rw [b_01_0]; omega) (b_Ws ?_))))
      dsimp only
      exact b_We (e_X12_isLot (by omega)) (b_Wf (by rw [b_01_0]; omega) (b_We (e_X12_isPerson (by omega)) (b_Wt (by rw [b_01_0]; omega) (b_Ws ⟨rfl, hE, hV, hP⟩))))
  · refine b_We e_X5_has (b_Wt (by rw [b_01_0]; omega) (b_Ws ?_))
    dsimp only
    exact b_We (e_X12_isLot (by omega)) (b_Wt (by rw [b_01_0]; omega) (b_Ws ⟨rfl, hE, hV, hP⟩))
