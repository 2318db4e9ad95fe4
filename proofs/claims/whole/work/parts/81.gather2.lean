def S_root : bW := [(2, some 0), (3, some 0), (92, none)]
/-- ROOTS' holders are persons -/
def R_root (M : bM) : Prop := ∀ r, 0 ≤ r → r < M 3 0 → -1 ≤ M 92 r ∧ M 92 r < M 2 0
theorem R_root_k {M N : bM} (h : ∀ c i, b_ins S_root c i = true → N c i = M c i) (hR : R_root M) : R_root N := by
  unfold R_root at hR ⊢
  rw [h 2 0 rfl, h 3 0 rfl, show N 92 = M 92 from funext fun i => h 92 i rfl]
  exact hR
theorem e_X8_isChild_n {M : bM} {h : Int} : b_wp (F_X8_isChild h (-1) M) (fun r => r = 0) := by
  unfold F_X8_isChild
  refine b_We e_X8_has (b_Wi (fun _ => b_Ws rfl) (fun _ => b_We e_X8_has (b_Wt (by rw [b_01_0]; omega) (b_Ws rfl))))
/-- 0 where LINK e follows the holder of row c without a GAP, else 1 -/
def gq (N : bM) (c e : Int) : Int := if i_bt (N 136 c) e.toNat = true then 0 else 1
theorem gq_01 {N : bM} {c e : Int} : gq N c e = 0 ∨ gq N c e = 1 := by
  unfold gq
  split
  · exact Or.inl rfl
  · exact Or.inr rfl
theorem gq_0 {N : bM} {c e : Int} : gq N c e = 0 ↔ i_bt (N 136 c) e.toNat = true := by
  unfold gq
  split
  · rename_i h; exact ⟨fun _ => h, fun _ => rfl⟩
  · rename_i h; exact ⟨fun z => absurd z (by decide), fun z => absurd z h⟩
theorem gq_u {N : bM} {c e : Int} (he : 0 ≤ e ∧ e < 32) : i_and (i_ushr (N 136 c) e) 1 = 1 - gq N c e := by
  rw [i_bt_ushr he]
  unfold gq
  split <;> rfl
theorem gq_c {N Q : bM} {c c2 e : Int} (h : Q 136 c2 = N 136 c) : gq Q c2 e = gq N c e := by
  unfold gq
  rw [h]
def La_I (M Q : bM) (d h : Int) (t : Int × Int) : Prop := (0 ≤ t.2 ∧ t.2 ≤ Q 7 6) ∧ ∀ e, 0 ≤ e → e < 30 → (i_bt t.1 e.toNat = true ↔ (e < t.2 ∧ g_nx M d h (Q 130 e)))
theorem t_la {M Q : bM} {d l h : Int} (hG : G_all M d) (f : b_fr W_gat M Q) (hL : G_ls M d l (M 6 0) Q) (hh : (Q 7 3 = 0 ∨ Q 7 3 = 1) ∧ (Q 7 3 = 1 ↔ x_rule M d 8 = 1)) (hp : (0 ≤ h ∧ h < M 2 0) ∧ x_lab M d h = h) : b_wp (F_X2_linksAfter h Q) (fun x => ∀ e, 0 ≤ e → e < Q 7 6 → (i_bt x e.toNat = true ↔ g_nx M d h (Q 130 e))) := by
  obtain ⟨g1, g2, g3, g4⟩ := hL
  have b1 := hG.1.2.2.2.2.2.2.2.2
  have b2 := b1.2
  obtain ⟨gP, ss⟩ := G_gat f hG
  unfold F_X2_linksAfter F_X2_linksAfter_b113
  refine b_Wb (b_loop_ind (I := La_I M Q d h) (fun t => (Q 7 6 - t.2).toNat) ?_ (0, 0) ⟨by dsimp only; omega, fun e e0 e1 => by dsimp only; rw [i_bt_0]; exact ⟨fun z => absurd z (by decide), fun z => by have := z.1; omega⟩⟩)
  intro ⟨x, e⟩ ⟨h1, h4⟩
  dsimp only at h1 h4 ⊢
  unfold F_X2_linksAfter_s4
  by_cases q : Q 7 6 ≤ e
  · exact b_Wt q (b_Ws (b_Ws (fun e' e0 e1 => ⟨fun z => ((h4 e' e0 (by omega)).mp z).2, fun z => (h4 e' e0 (by omega)).mpr ⟨by omega, z⟩⟩)))
  · obtain ⟨⟨c1, c2⟩, c3, c4, c5, c6, c7⟩ := g2 e h1.1 (by omega)
    have hr := G_rr hG (b := Q 130 e) c1.1
    have hr2 := G_r hG (b := Q 130 e) c1.1
    have hT := T_ok_of hG.1.1
    have r1 := hG.1.1.1
    have n20 : Q 2 0 = M 2 0 := f 2 0 (by decide)
    have lbr := g_lb_r (d := d) (s := g_G M (Q 130 e)) hT (by omega)
    have fin : ∀ u, (u = 0 ∨ u = 1) → (g_G M (Q 130 e) ≠ -1 → (u = 1 ↔ (x_rule M d 8 = 1 ∧ x_chi M d h (x_lab M d (g_G M (Q 130 e))) ∧ x_dea M d h ≠ -1 ∧ x_dea M d h ≤ g_F M (Q 130 e)))) → b_wp (F_X2_linksAfter_b58 h x e u Q) (Sum.elim (fun t : Int × Int => La_I M Q d h t ∧ (Q 7 6 - t.2).toNat < (Q 7 6 - e).toNat) (fun N => b_wp (some N) (fun x => ∀ e, 0 ≤ e → e < Q 7 6 → (i_bt x e.toNat = true ↔ g_nx M d h (Q 130 e))))) := by
      intro u hu hu2
      have put : ∀ w, (∀ e', 0 ≤ e' → e' < 30 → (i_bt w e'.toNat = true ↔ (e' = e ∧ g_nx M d h (Q 130 e)))) → b_wp (F_X2_linksAfter_b105 h e x w Q) (Sum.elim (fun t : Int × Int => La_I M Q d h t ∧ (Q 7 6 - t.2).toNat < (Q 7 6 - e).toNat) (fun N => b_wp (some N) (fun x => ∀ e, 0 ≤ e → e < Q 7 6 → (i_bt x e.toNat = true ↔ g_nx M d h (Q 130 e))))) := by
        intro w hw
        unfold F_X2_linksAfter_b105
        refine b_Wl (b_Wg (by omega) (b_Ws ⟨⟨by dsimp only; omega, fun e' e0 e1 => ?_⟩, by dsimp only; omega⟩))
        dsimp only
        rw [i_bt_or, Bool.or_eq_true, h4 e' e0 e1, hw e' e0 e1]
        constructor
        · intro z
          rcases z with z | z
          · exact ⟨by omega, z.2⟩
          · rw [z.1]; exact ⟨by omega, z.2⟩
        · intro z
          by_cases qe : e' = e
          · rw [qe] at z; exact Or.inr ⟨qe, z.2⟩
          · exact Or.inl ⟨by omega, z.2⟩
      have no : ¬ g_nx M d h (Q 130 e) → b_wp (F_X2_linksAfter_b105 h e x 0 Q) (Sum.elim (fun t : Int × Int => La_I M Q d h t ∧ (Q 7 6 - t.2).toNat < (Q 7 6 - e).toNat) (fun N => b_wp (some N) (fun x => ∀ e, 0 ≤ e → e < Q 7 6 → (i_bt x e.toNat = true ↔ g_nx M d h (Q 130 e))))) := fun z => put 0 (fun e' e0 e1 => by rw [i_bt_0]; exact ⟨fun y => absurd y (by decide), fun y => absurd y.2 z⟩)
      have yes : g_nx M d h (Q 130 e) → b_wp (F_X2_linksAfter_b105 h e x (i_shl 1 e) Q) (Sum.elim (fun t : Int × Int => La_I M Q d h t ∧ (Q 7 6 - t.2).toNat < (Q 7 6 - e).toNat) (fun N => b_wp (some N) (fun x => ∀ e, 0 ≤ e → e < Q 7 6 → (i_bt x e.toNat = true ↔ g_nx M d h (Q 130 e))))) := fun z => put (i_shl 1 e) (fun e' e0 e1 => by rw [i_bt_shl (by omega), decide_eq_true_eq]; exact ⟨fun y => ⟨by omega, z⟩, fun y => by have := y.1; omega⟩)
      unfold F_X2_linksAfter_b58 F_X2_linksAfter_b89 F_X2_linksAfter_b85 F_X2_linksAfter_b90
      rw [c6]
      refine b_Wg (by omega) (b_Wi (fun z => b_Wt rfl (no (fun y => ?_))) (fun z => b_Wg (by omega) (b_Wi (fun z2 => b_Wf (by decide) (yes ?_)) (fun z2 => b_Wi (fun z3 => b_Wt rfl (no (fun y => ?_))) (fun z3 => b_Wf (by decide) (yes ?_))))))
      · have := (lbr.2.2.1 y.1).1
        omega
      · have zn : g_G M (Q 130 e) ≠ -1 := fun y => z (lbr.2.2.2 y)
        refine ⟨zn, Or.inl ?_⟩
        rw [← z2]
        unfold g_lb
        rw [if_neg zn]
      · rcases y.2 with y2 | y2
        · refine z2 ?_
          unfold g_lb
          rw [if_neg y.1]
          exact y2.symm
        · have := (hu2 y.1).mpr y2
          omega
      · have zn : g_G M (Q 130 e) ≠ -1 := fun y => z (lbr.2.2.2 y)
        exact ⟨zn, Or.inr ((hu2 zn).mp (by omega))⟩
    unfold F_X2_linksAfter_b57
    have no : ¬ (x_rule M d 8 = 1 ∧ x_chi M d h (x_lab M d (g_G M (Q 130 e))) ∧ x_dea M d h ≠ -1 ∧ x_dea M d h ≤ g_F M (Q 130 e)) ∨ g_G M (Q 130 e) = -1 → (g_G M (Q 130 e) ≠ -1 → ((0 : Int) = 1 ↔ (x_rule M d 8 = 1 ∧ x_chi M d h (x_lab M d (g_G M (Q 130 e))) ∧ x_dea M d h ≠ -1 ∧ x_dea M d h ≤ g_F M (Q 130 e)))) := by
      intro z zn
      rcases z with z | z
      · exact ⟨fun y => absurd y (by decide), fun y => absurd y z⟩
      · exact absurd z zn
    refine b_Wf q (b_Wi (fun z => fin 0 (Or.inl rfl) (no (Or.inl (fun y => ?_)))) (fun z => b_Wg (by omega) ?_))
    · have := hh.2.mpr y.1
      omega
    · refine b_We (e_X8_isDeadBy gP.1.1 gP.2.1 (by omega)) ?_
      rw [sp_lab ss, sp_dea ss, hp.2, c4]
      refine b_Wi (fun z2 => fin 0 (Or.inl rfl) (no (Or.inl (fun y => (b_01_0.mp z2) ⟨y.2.2.1, y.2.2.2⟩)))) (fun z2 => b_Wg (by omega) ?_)
      have z3 := Decidable.of_not_not (fun y => z2 (b_01_0.mpr y))
      rw [c6]
      by_cases zn : g_G M (Q 130 e) = -1
      · rw [lbr.2.2.2 zn]
        refine b_Wb (b_wp_m (fun r hr => ?_) e_X8_isChild_n)
        subst hr
        exact b_Wt rfl (fin 0 (Or.inl rfl) (no (Or.inr zn)))
      · have e1 : g_lb M d (g_G M (Q 130 e)) = x_lab M d (g_G M (Q 130 e)) := by unfold g_lb; rw [if_neg zn]
        have l3 := lbr.2.2.1 zn
        refine b_Wb (b_wp_m (fun r hr => ?_) (e_X8_isChild gP.1.1 gP.2.1 (p := h) (c := g_lb M d (g_G M (Q 130 e))) (by omega) (by omega)))
        rw [sp_chi ss, e1] at hr
        refine b_Wi (fun z4 => fin 0 (Or.inl rfl) (no (Or.inl (fun y => ?_)))) (fun z4 => fin 1 (Or.inr rfl) (fun _ => ⟨fun _ => ⟨hh.2.mp (hh.1.resolve_left z), hr.2.mp (hr.1.resolve_left z4), z3.1, z3.2⟩, fun _ => rfl⟩))
        have := hr.2.mpr y.2.1
        omega
theorem t_ends {M Q : bM} {d p h : Int} (hG : G_all M d) (f : b_fr W_gat M Q) (hh : (Q 7 3 = 0 ∨ Q 7 3 = 1) ∧ (Q 7 3 = 1 ↔ x_rule M d 8 = 1)) (h4 : Q 7 4 = x_lab M d p) (hq : 0 ≤ p ∧ p < M 2 0) (hp : (0 ≤ h ∧ h < M 2 0) ∧ x_lab M d h = h) : b_wp (F_X2_endsWith h Q) (fun r => (r = 0 ∨ r = 1) ∧ (r = 1 ↔ g_en M d p h)) := by
  obtain ⟨gP, ss⟩ := G_gat f hG
  have r1 := hG.1.1.1
  have hT := T_ok_of hG.1.1
  have lp := x_lab_r (d := d) (p := p) hT (by omega)
  have n20 : Q 2 0 = M 2 0 := f 2 0 (by decide)
  unfold F_X2_endsWith
  rw [h4]
  refine b_Wi (fun q => b_Ws ⟨Or.inr rfl, fun _ => Or.inl q, fun _ => rfl⟩) (fun q => b_Wi (fun q1 => b_Ws ⟨Or.inl rfl, fun z => absurd z (by decide), fun z => ?_⟩) (fun q1 => b_We (e_X8_deathOf gP.1.1 gP.2.1 (by omega)) ?_))
  · rcases z with z | z
    · exact absurd z q
    · have := hh.2.mpr z.1; omega
  · rw [sp_lab ss, sp_dea ss, hp.2]
    refine b_Wi (fun q2 => b_Ws ⟨Or.inl rfl, fun z => absurd z (by decide), fun z => ?_⟩) (fun q2 => b_Wb (b_wp_m (fun r hr => ?_) (e_X8_isChild gP.1.1 gP.2.1 (p := h) (c := x_lab M d p) (by omega) (by omega))))
    · rcases z with z | z
      · exact absurd z q
      · exact absurd q2 z.2.1
    · rw [sp_chi ss] at hr
      refine b_Wi (fun q3 => b_Ws ⟨Or.inl rfl, fun z => absurd z (by decide), fun z => ?_⟩) (fun q3 => b_Ws ⟨Or.inr rfl, fun _ => Or.inr ⟨hh.2.mp (hh.1.resolve_left q1), q2, hr.2.mp (hr.1.resolve_left q3)⟩, fun _ => rfl⟩)
      rcases z with z | z
      · exact absurd z q
      · have := hr.2.mpr z.2.2; omega
/-- what is gathered -/
def Ga (M : bM) (d l p : Int) (N : bM) : Prop := G_ls M d l (M 6 0) N ∧ (N 7 4 = x_lab M d p ∧ (N 7 3 = 0 ∨ N 7 3 = 1) ∧ (N 7 3 = 1 ↔ x_rule M d 8 = 1)) ∧ (∀ c, 0 ≤ c → c < N 7 6 → (i_bt (N 7 13) c.toNat = true ↔ g_en M d p (N 135 c))) ∧ (∀ c e, 0 ≤ c → c < N 7 6 → 0 ≤ e → e < N 7 6 → (gq N c e = 0 ∨ gq N c e = 1) ∧ (gq N c e = 0 ↔ g_nx M d (N 135 c) (N 130 e))) ∧ (∀ r, 0 ≤ r → r < 60 → (j_bt (N 7 5) r.toNat = true ↔ g_rt M l r)) ∧ ∀ r e, g_rt M l r → 0 ≤ e → e < N 7 6 → (gq N (30 + r) e = 0 ∨ gq N (30 + r) e = 1) ∧ (gq N (30 + r) e = 0 ↔ g_nx M d (x_lab M d (M 217 r)) (N 130 e))
theorem G_ls_c {M N P : bM} {d l n : Int} (h6 : P 7 6 = N 7 6) (h0 : P 130 = N 130) (h1 : P 131 = N 131) (h2 : P 132 = N 132) (h3 : P 133 = N 133) (h4 : P 134 = N 134) (h5 : P 135 = N 135) (h : G_ls M d l n N) : G_ls M d l n P := by
  unfold G_ls at h ⊢
  rw [h6, h0, h1, h2, h3, h4, h5]
  exact h
theorem t_gather {M : bM} {d l p : Int} (hG : G_all M d) (hRr : R_root M) (hl : 0 ≤ l ∧ l < M 3 0) (hp : 0 ≤ p ∧ p < M 2 0) : b_wp (F_X2_gather l p M) (fun N => b_fr W_gat M N ∧ Ga M d l p N) := by
  have hB := E_b_of hG.1 hG.2.1 hG.2.2
  have hx := x_act_r (d := d) hB.2.2.2.2.1
  have hT := T_ok_of hG.1.1
  have r1 := hG.1.1.1
  have b1 := hG.1.2.2.2.2.2.2.2.2
  have b2 := b1.2
  have l1 := hG.1.2.2.1.1
  have l2 : M 174 = M 91 := hG.1.2.2.1.2.1.2.2.2.2.1
  have l3 := hG.1.2.2.1.2.2.1
  unfold F_X2_gather
  have go : ∀ u, (u = 0 ∨ u = 1) → (u = 1 ↔ x_rule M d 8 = 1) → b_wp (F_X2_gather_b22 l p u M) (fun N => b_fr W_gat M N ∧ Ga M d l p N) := by
    intro u hu hu2
    unfold F_X2_gather_b22
    refine b_Wg hu (b_Wl ?_)
    have f1 : b_fr W_gat M (b_up M 7 3 u) := b_frF b_fr_refl (by decide)
    obtain ⟨gq, ss⟩ := G_gat f1 hG
    refine b_We (e_X8_groupOf gq.1.1 gq.2.1 (Or.inr (by rw [f1 2 0 (by decide)]; exact hp))) ?_
    rw [if_neg (show ¬ p = -1 by omega), sp_lab ss]
    refine b_Wl (b_Wg (by omega) ?_)
    refine b_Wl (b_Wl (b_Wl (b_Wb ?_)))
    rw [show b_up (b_up M 7 3 u) 7 4 (x_lab M d p) 91 l = M 91 l by rw [b_upc (by decide), b_upc (by decide)]]
    generalize hQ : b_up (b_up (b_up (b_up M 7 3 u) 7 4 (x_lab M d p)) 7 6 0) 7 13 0 = Q
    have fQ : b_fr W_gat M Q := by subst hQ; exact b_frF (b_frF (b_frF f1 (by decide)) (by decide)) (by decide)
    have q0 : Q 7 6 = 0 ∧ Q 7 3 = u ∧ Q 7 4 = x_lab M d p ∧ Q 7 13 = 0 := by subst hQ; simp [b_up]
    clear hQ f1 gq ss
    refine b_wp_m (fun P y => ?_) (t_ga60 hG hl fQ q0.1)
    obtain ⟨y1, y2, y3⟩ := y
    have hLs := y3
    obtain ⟨g1, g2, g3, g4⟩ := y3
    have gotr : ∀ c, 0 ≤ c → c < P 7 6 → (0 ≤ P 135 c ∧ P 135 c < M 2 0) ∧ x_lab M d (P 135 c) = P 135 c := by
      intro c c0 c1
      obtain ⟨⟨k1, k2⟩, k3, k4, k5, k6, k7⟩ := g2 c c0 c1
      have hr := G_r hG (b := P 130 c) k1.1
      have lb := g_lb_r (d := d) (s := g_T M (P 130 c)) hT (by omega)
      have := lb.2.2.1 k1.2.2.2
      rw [k7]
      omega
    unfold F_X2_gather_b119
    refine b_Wb (b_wp_m (fun R z => ?_) (b_loop_ind (P := fun R : bM => b_fr W_gat M R ∧ (∀ c j, c ≠ 136 → ¬ (c = 7 ∧ j = 13) → R c j = P c j) ∧ (∀ c, 0 ≤ c → c < P 7 6 → (i_bt (R 7 13) c.toNat = true ↔ g_en M d p (P 135 c))) ∧ ∀ c e, 0 ≤ c → c < P 7 6 → 0 ≤ e → e < P 7 6 → (i_bt (R 136 c) e.toNat = true ↔ g_nx M d (P 135 c) (P 130 e))) (I := fun t : Int × bM => (0 ≤ t.1 ∧ t.1 ≤ P 7 6) ∧ b_fr W_gat M t.2 ∧ (∀ c j, c ≠ 136 → ¬ (c = 7 ∧ j = 13) → t.2 c j = P c j) ∧ (∀ c, 0 ≤ c → c < 30 → (i_bt (t.2 7 13) c.toNat = true ↔ (c < t.1 ∧ g_en M d p (P 135 c)))) ∧ ∀ c e, 0 ≤ c → c < t.1 → 0 ≤ e → e < P 7 6 → (i_bt (t.2 136 c) e.toNat = true ↔ g_nx M d (P 135 c) (P 130 e))) (fun t => (P 7 6 - t.1).toNat) ?_ (0, P) ⟨by dsimp only; omega, y1, fun _ _ _ _ => rfl, fun c c0 c1 => ?_, fun c e c0 c1 => by dsimp only at c1; omega⟩))
    · obtain ⟨z1, z2, z3, z4⟩ := z
      have zf : ∀ c : Nat, c ≠ 136 → c ≠ 7 → R c = P c := fun c c1 c2 => funext fun j => z2 c j c1 (fun e => c2 e.1)
      unfold F_X2_gather_b186 F_X2_gather_b283
      refine b_Wl (b_Wb ?_)
      generalize hS : b_up R 7 5 0 = S
      have fS : b_fr W_gat M S := by subst hS; exact b_frF z1 (by decide)
      have s5 : S 7 5 = 0 := by subst hS; exact b_ups
      have sf : ∀ c j, ¬ (c = 7 ∧ j = 5) → S c j = R c j := fun c j h => by subst hS; unfold b_up; rw [if_neg h]
      clear hS
      have s136 : S 136 = R 136 := funext fun j => sf 136 j (by omega)
      have sL : G_ls M d l (M 6 0) S := G_ls_c (by rw [sf 7 6 (by omega), z2 7 6 (by decide) (by omega)]) (funext fun j => by rw [sf 130 j (by omega), zf 130 (by decide) (by decide)]) (funext fun j => by rw [sf 131 j (by omega), zf 131 (by decide) (by decide)]) (funext fun j => by rw [sf 132 j (by omega), zf 132 (by decide) (by decide)]) (funext fun j => by rw [sf 133 j (by omega), zf 133 (by decide) (by decide)]) (funext fun j => by rw [sf 134 j (by omega), zf 134 (by decide) (by decide)]) (funext fun j => by rw [sf 135 j (by omega), zf 135 (by decide) (by decide)]) hLs
      have n6 : S 7 6 = P 7 6 := by rw [sf 7 6 (by omega), z2 7 6 (by decide) (by omega)]
      have n13 : S 7 13 = R 7 13 := sf 7 13 (by omega)
      have n130 : S 130 = P 130 := funext fun j => by rw [sf 130 j (by omega), zf 130 (by decide) (by decide)]
      have n135 : S 135 = P 135 := funext fun j => by rw [sf 135 j (by omega), zf 135 (by decide) (by decide)]
      have n3 : S 7 3 = u := by rw [sf 7 3 (by omega), z2 7 3 (by decide) (by omega), y2.1]; exact q0.2.1
      have n4 : S 7 4 = x_lab M d p := by rw [sf 7 4 (by omega), z2 7 4 (by decide) (by omega), y2.2.1]; exact q0.2.2.1
      refine b_loop_ind (I := fun t : Int × bM => (0 ≤ t.1 ∧ t.1 ≤ M 3 0) ∧ b_fr W_gat M t.2 ∧ (∀ c j, c ≠ 136 → ¬ (c = 7 ∧ j = 5) → t.2 c j = S c j) ∧ (∀ j, j < 30 → t.2 136 j = S 136 j) ∧ (∀ r, 0 ≤ r → r < 60 → (j_bt (t.2 7 5) r.toNat = true ↔ (r < t.1 ∧ g_rt M l r))) ∧ ∀ r e, r < t.1 → g_rt M l r → 0 ≤ e → e < P 7 6 → (i_bt (t.2 136 (30 + r)) e.toNat = true ↔ g_nx M d (x_lab M d (M 217 r)) (P 130 e))) (fun t => (M 3 0 - t.1).toNat) ?_ (0, S) ⟨by dsimp only; omega, fS, fun _ _ _ _ => rfl, fun _ _ => rfl, fun r r0 r1 => ?_, fun r e r1 w => by have := w.1; dsimp only at r1; omega⟩
      · intro ⟨r, V⟩ ⟨k1, k2, k3, k4, k5, k6⟩
        dsimp only at k1 k2 k3 k4 k5 k6 ⊢
        have v3 : V 3 0 = M 3 0 := k2 3 0 (by decide)
        unfold F_X2_gather_s194
        rw [v3]
        by_cases q : M 3 0 ≤ r
        · refine b_Wt q (b_Ws (b_Ws ⟨k2, ?_⟩))
          have rn : r = M 3 0 := by omega
          have v6 : V 7 6 = P 7 6 := by rw [k3 7 6 (by decide) (by omega)]; exact n6
          have v130 : V 130 = P 130 := funext fun j => by rw [k3 130 j (by decide) (by omega), n130]
          have v135 : V 135 = P 135 := funext fun j => by rw [k3 135 j (by decide) (by omega), n135]
          refine ⟨G_ls_c (k3 7 6 (by decide) (by omega)) (funext fun j => k3 _ j (by decide) (by omega)) (funext fun j => k3 _ j (by decide) (by omega)) (funext fun j => k3 _ j (by decide) (by omega)) (funext fun j => k3 _ j (by decide) (by omega)) (funext fun j => k3 _ j (by decide) (by omega)) (funext fun j => k3 _ j (by decide) (by omega)) sL, ⟨?_, ?_, ?_⟩, ?_, ?_, ?_, ?_⟩
          · rw [k3 7 4 (by decide) (by omega)]; exact n4
          · rw [k3 7 3 (by decide) (by omega), n3]; exact hu
          · rw [k3 7 3 (by decide) (by omega), n3]; exact hu2
          · rw [v6, v135, k3 7 13 (by decide) (by omega), n13]; exact z3
          · rw [v6, v135, v130]
            intro c e c0 c1 e0 e1
            refine ⟨gq_01, gq_0.trans ?_⟩
            rw [k4 c (by omega), s136]
            exact z4 c e c0 c1 e0 e1
          · intro r' r0 r1
            rw [k5 r' r0 r1]
            exact ⟨fun w => w.2, fun w => ⟨by have := w.1; omega, w⟩⟩
          · rw [v6, v130]
            intro r' e w e0 e1
            exact ⟨gq_01, gq_0.trans (k6 r' e (by have := w.1; omega) w e0 e1)⟩
        · have hr3 := l3 r k1.1 (by omega)
          have hrr := hRr r k1.1 (by omega)
          have e217 : M 217 r = M 92 r := hr3.1.2
          have v92 : V 92 r = M 92 r := k2 92 r rfl
          have skip : ¬ g_rt M l r → ((0 ≤ r + 1 ∧ r + 1 ≤ M 3 0) ∧ b_fr W_gat M V ∧ (∀ c j, c ≠ 136 → ¬ (c = 7 ∧ j = 5) → V c j = S c j) ∧ (∀ j, j < 30 → V 136 j = S 136 j) ∧ (∀ r', 0 ≤ r' → r' < 60 → (j_bt (V 7 5) r'.toNat = true ↔ (r' < r + 1 ∧ g_rt M l r'))) ∧ ∀ r' e, r' < r + 1 → g_rt M l r' → 0 ≤ e → e < P 7 6 → (i_bt (V 136 (30 + r')) e.toNat = true ↔ g_nx M d (x_lab M d (M 217 r')) (P 130 e))) ∧ (M 3 0 - (r + 1)).toNat < (M 3 0 - r).toNat := by
            intro z
            refine ⟨⟨by omega, k2, k3, k4, fun r' r0 r1 => ?_, fun r' e r1 w e0 e1 => ?_⟩, by omega⟩
            · rw [k5 r' r0 r1]
              constructor
              · intro w; exact ⟨by omega, w.2⟩
              · intro w
                by_cases qr : r' = r
                · subst qr; exact absurd w.2 z
                · exact ⟨by omega, w.2⟩
            · by_cases qr : r' = r
              · subst qr; exact absurd w z
              · exact k6 r' e (by omega) w e0 e1
          refine b_Wf q (b_We (e_X5_isAmong (by omega)) ?_)
          rw [v3, ← l2, v92]
          refine b_Wi (fun q1 => b_Wg (by omega) (b_Ws (skip (fun w => (b_01_0.mp q1) ⟨by omega, by omega, w.2.2⟩)))) (fun q1 => b_Wg (by omega) (b_Wi (fun q2 => b_Wg (by omega) (b_Ws (skip (fun w => w.2.1 (by rw [e217]; exact q2))))) (fun q2 => b_Wl ?_)))
          have q1' := Decidable.of_not_not (fun y => q1 (b_01_0.mpr y))
          have hrt : g_rt M l r := ⟨by omega, by rw [e217]; exact q2, q1'.2.2⟩
          generalize hV2 : b_up V 7 5 (j_or (V 7 5) (j_shl 1 r)) = V2
          have fV2 : b_fr W_gat M V2 := by subst hV2; exact b_frF k2 (by decide)
          have g2V : ∀ c j, ¬ (c = 7 ∧ j = 5) → V2 c j = V c j := fun c j h => by subst hV2; unfold b_up; rw [if_neg h]
          have v75 : V2 7 5 = j_or (V 7 5) (j_shl 1 r) := by subst hV2; exact b_ups
          clear hV2
          obtain ⟨gV, ssV⟩ := G_gat fV2 hG
          have hlr := x_lab_r (d := d) (p := M 92 r) hT (by omega)
          refine b_Wg (by omega) ?_
          rw [g2V 92 r (by omega), v92]
          refine b_We (e_X8_groupOf gV.1.1 gV.2.1 (Or.inr (by rw [fV2 2 0 (by decide)]; omega))) ?_
          rw [if_neg q2, sp_lab ssV]
          have V2L : G_ls M d l (M 6 0) V2 := by
            have c7 : ∀ c : Nat, c ≠ 136 → c ≠ 7 → V2 c = S c := fun c c1 c2 => funext fun j => by rw [g2V c j (fun e => c2 e.1), k3 c j c1 (fun e => c2 e.1)]
            exact G_ls_c (by rw [g2V 7 6 (by omega), k3 7 6 (by decide) (by omega)]) (c7 130 (by decide) (by decide)) (c7 131 (by decide) (by decide)) (c7 132 (by decide) (by decide)) (c7 133 (by decide) (by decide)) (c7 134 (by decide) (by decide)) (c7 135 (by decide) (by decide)) sL
          have v73 : V2 7 3 = u := by rw [g2V 7 3 (by omega), k3 7 3 (by decide) (by omega)]; exact n3
          have v76 : V2 7 6 = P 7 6 := by rw [g2V 7 6 (by omega), k3 7 6 (by decide) (by omega)]; exact n6
          have v130 : V2 130 = P 130 := funext fun j => by rw [g2V 130 j (by omega), k3 130 j (by decide) (by omega), n130]
          refine b_Wb (b_wp_m (fun xb w3 => b_Wg (by omega) (b_Wl ?_)) (t_la (h := x_lab M d (M 92 r)) hG fV2 V2L (by rw [v73]; exact ⟨hu, hu2⟩) ⟨by omega, (x_lab_p hT).2.1 _⟩))
          rw [v76, v130] at w3
          generalize hX : b_up V2 136 (30 + r) xb = X
          have w1 : ∀ c j, c ≠ 136 → X c j = V2 c j := fun c j h => by subst hX; exact b_upc h
          have w2 : ∀ j, j ≠ 30 + r → X 136 j = V2 136 j := fun j h => by subst hX; exact b_upi h
          have w4 : X 136 (30 + r) = xb := by subst hX; exact b_ups
          clear hX
          refine b_Wg (by omega) (b_Ws ⟨⟨by dsimp only; omega, ?_, fun c j c1 c2 => ?_, fun j hj => ?_, fun r' r0 r1' => ?_, fun r' e rr w e0 e1 => ?_⟩, by dsimp only; omega⟩)
          · intro c i hi
            have hc : c ≠ 136 := fun z => by subst z; revert hi; simp [b_ins, W_gat]
            dsimp only
            rw [w1 c i hc]; exact fV2 c i hi
          · dsimp only
            rw [w1 c j c1, g2V c j c2]; exact k3 c j c1 c2
          · dsimp only
            rw [w2 j (by omega), g2V 136 j (by omega)]; exact k4 j hj
          · dsimp only
            rw [w1 7 5 (by decide), v75, j_bt_or, j_bt_shl (by omega), Bool.or_eq_true, k5 r' r0 r1', decide_eq_true_eq]
            constructor
            · intro w
              rcases w with w | w
              · exact ⟨by omega, w.2⟩
              · have : r' = r := by omega
                subst this
                exact ⟨by omega, hrt⟩
            · intro w
              by_cases qr : r' = r
              · exact Or.inr (by omega)
              · exact Or.inl ⟨by omega, w.2⟩
          · dsimp only at rr ⊢
            by_cases qr : r' = r
            · subst qr
              rw [e217, w4]
              exact w3 e e0 e1
            · have hw := w.1
              rw [w2 (30 + r') (by omega), g2V 136 _ (by omega)]
              exact k6 r' e (by omega) w e0 e1
      · dsimp only
        rw [s5, j_bt_0]
        exact ⟨fun z => absurd z (by decide), fun z => by have := z.2.1; have := z.1; omega⟩
    · intro ⟨c, R⟩ ⟨k1, k2, k3, k4, k5⟩
      dsimp only at k1 k2 k3 k4 k5 ⊢
      unfold F_X2_gather_s122 F_X2_gather_b176
      have r76 : R 7 6 = P 7 6 := k3 7 6 (by decide) (by omega)
      have r135 : R 135 c = P 135 c := k3 135 c (by decide) (by omega)
      rw [r76, r135]
      by_cases q : P 7 6 ≤ c
      · refine b_Wt q (b_Ws ⟨k2, k3, fun c' c0 c1 => ?_, fun c' e c0 c1 => k5 c' e c0 (by omega)⟩)
        rw [k4 c' c0 (by omega)]
        exact ⟨fun w => w.2, fun w => ⟨by omega, w⟩⟩
      · have hgot := gotr c k1.1 (by omega)
        have RL : G_ls M d l (M 6 0) R := G_ls_c r76 (funext fun j => k3 _ j (by decide) (by omega)) (funext fun j => k3 _ j (by decide) (by omega)) (funext fun j => k3 _ j (by decide) (by omega)) (funext fun j => k3 _ j (by decide) (by omega)) (funext fun j => k3 _ j (by decide) (by omega)) (funext fun j => k3 _ j (by decide) (by omega)) hLs
        have r73 : R 7 3 = u := by rw [k3 7 3 (by decide) (by omega), y2.1]; exact q0.2.1
        have r74 : R 7 4 = x_lab M d p := by rw [k3 7 4 (by decide) (by omega), y2.2.1]; exact q0.2.2.1
        have r130 : R 130 = P 130 := funext fun j => k3 130 j (by decide) (by omega)
        refine b_Wf q (b_Wg (by omega) (b_Wb (b_wp_m (fun xb w3 => b_Wg (by omega) (b_Wl ?_)) (t_la (h := P 135 c) hG k2 RL (by rw [r73]; exact ⟨hu, hu2⟩) hgot))))
        rw [r76, r130] at w3
        generalize hX : b_up R 136 c xb = X
        have w1 : ∀ c' j, c' ≠ 136 → X c' j = R c' j := fun c' j h => by subst hX; exact b_upc h
        have w2 : ∀ j, j ≠ c → X 136 j = R 136 j := fun j h => by subst hX; exact b_upi h
        have w4 : X 136 c = xb := by subst hX; exact b_ups
        clear hX
        have fX : b_fr W_gat M X := fun c' i hi => by
          have hc : c' ≠ 136 := fun z => by subst z; revert hi; simp [b_ins, W_gat]
          rw [w1 c' i hc]; exact k2 c' i hi
        rw [w1 135 c (by decide), r135]
        refine b_Wg (by omega) (b_Wb (b_wp_m (fun x yx => ?_) (t_ends (p := p) hG fX (by rw [w1 7 3 (by decide), r73]; exact ⟨hu, hu2⟩) (by rw [w1 7 4 (by decide)]; exact r74) hp hgot)))
        have fin : ∀ v, (∀ c', 0 ≤ c' → c' < 30 → (i_bt (i_or (X 7 13) v) c'.toNat = true ↔ (c' < c + 1 ∧ g_en M d p (P 135 c')))) → ((0 ≤ c + 1 ∧ c + 1 ≤ P 7 6) ∧ b_fr W_gat M (b_up X 7 13 (i_or (X 7 13) v)) ∧ (∀ c' j, c' ≠ 136 → ¬ (c' = 7 ∧ j = 13) → b_up X 7 13 (i_or (X 7 13) v) c' j = P c' j) ∧ (∀ c', 0 ≤ c' → c' < 30 → (i_bt (b_up X 7 13 (i_or (X 7 13) v) 7 13) c'.toNat = true ↔ (c' < c + 1 ∧ g_en M d p (P 135 c')))) ∧ ∀ c' e, 0 ≤ c' → c' < c + 1 → 0 ≤ e → e < P 7 6 → (i_bt (b_up X 7 13 (i_or (X 7 13) v) 136 c') e.toNat = true ↔ g_nx M d (P 135 c') (P 130 e))) ∧ (P 7 6 - (c + 1)).toNat < (P 7 6 - c).toNat := by
          intro v hv
          refine ⟨⟨by omega, b_frF fX (by decide), fun c' j h1 h2 => ?_, ?_, fun c' e c0 c1 e0 e1 => ?_⟩, by omega⟩
          · unfold b_up
            rw [if_neg h2, w1 c' j h1]; exact k3 c' j h1 h2
          · rw [b_ups]; exact hv
          · rw [b_upc (by decide)]
            by_cases qc : c' = c
            · subst qc; rw [w4]; exact w3 e e0 e1
            · rw [w2 c' qc]
              exact k5 c' e c0 (by omega) e0 e1
        have x13 : X 7 13 = R 7 13 := w1 7 13 (by decide)
        refine b_Wi (fun z => b_Wl (b_Wg (by omega) (b_Ws (fin 0 (fun c' c0 c1 => ?_))))) (fun z => b_Wl (b_Wg (by omega) (b_Ws (fin (i_shl 1 c) (fun c' c0 c1 => ?_)))))
        · rw [i_bt_or, i_bt_0, Bool.or_false, x13, k4 c' c0 c1]
          constructor
          · intro w; exact ⟨by omega, w.2⟩
          · intro w
            by_cases qc : c' = c
            · subst qc
              have := yx.2.mpr w.2
              omega
            · exact ⟨by omega, w.2⟩
        · rw [i_bt_or, i_bt_shl (by omega), Bool.or_eq_true, x13, k4 c' c0 c1, decide_eq_true_eq]
          constructor
          · intro w
            rcases w with w | w
            · exact ⟨by omega, w.2⟩
            · have : c' = c := by omega
              subst this
              exact ⟨by omega, yx.2.mp (yx.1.resolve_left z)⟩
          · intro w
            by_cases qc : c' = c
            · exact Or.inr (by omega)
            · exact Or.inl ⟨by omega, w.2⟩
    · dsimp only
      rw [y2.2.2, q0.2.2.2, i_bt_0]
      exact ⟨fun z => absurd z (by decide), fun z => by have := z.1; omega⟩
  refine b_We (e_X4_actThen hB E_n_refl) (b_Wg (by omega) (b_We (e_toldE hB E_n_refl (by omega)) (b_Wi (fun q => go 1 (Or.inr rfl) ⟨fun _ => q, fun _ => rfl⟩) (fun q => go 0 (Or.inl rfl) ⟨fun z => absurd z (by decide), fun z => absurd z q⟩))))
