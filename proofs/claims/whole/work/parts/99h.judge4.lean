/-- the answer of judge, as both tell it -/
def Jr (M : bM) (d l p n : Int) (y : Int → Int) (a : Int) : Prop := (a = -1 ∧ ¬ (n ≤ 8 ∧ Jv M l y n)) ∨ ((n ≤ 8 ∧ Jv M l y n) ∧ Jm M d l p y n.toNat (M 3 0) a)
theorem t_judgeRow {M : bM} {d l p : Int} (hG : G_all M d) (hRr : R_root M) (hl : 0 ≤ l ∧ l < M 3 0) (hp : 0 ≤ p ∧ p < M 2 0) (hT : 0 ≤ M 1 1 ∧ M 1 1 ≤ 1000) (hy : ∀ i, -128 ≤ M 72 i ∧ M 72 i < 128) : b_wp (F_X2_judgeRow_1 l p M) (fun o => b_fr W_X2_judgeRow_1 M o.2 ∧ Jr M d l p (M 1 1) (fun i => M 72 i - 48) o.1) := by
  refine b_wl_wp (w_X2_judgeRow_1 b_fr_refl) ?_
  have l1 := hG.1.2.2.1.1
  have b1 := hG.1.2.2.2.2.2.2.2.2.2
  unfold F_X2_judgeRow_1
  refine b_Wb (b_wp_m (fun N w => ?_) (t_gather hG hRr hl hp))
  obtain ⟨hN, hA⟩ := w
  have n11 : N 1 1 = M 1 1 := hN 1 1 (by decide)
  have n72 : N 72 = M 72 := funext fun i => hN 72 i rfl
  have rw_ := t_row (n := N 1 1) hA (by omega) rfl (by omega) (by rw [n72]; exact hy)
  rw [n11, n72] at rw_
  rw [n11]
  refine b_Wb (b_wp_m (fun o z => ?_) rw_)
  rcases o with Q | ⟨a, Q⟩
  · obtain ⟨z1, z2, z3, z4, z5⟩ := z
    show b_wp (F_X2_judgeRow_1_b97 (M 1 1) Q) _
    unfold F_X2_judgeRow_1_b97
    refine b_Wi (fun q => ?_) (fun q => ?_)
    · have eQ := z5 q
      subst eQ
      have jm : ∀ a : Int, (∀ r, a = -1 → g_rt M l r → ¬ g_en M d p (x_lab M d (M 217 r))) → (a = -1 ∨ (a = 0 ∧ ∃ r, g_rt M l r ∧ g_en M d p (x_lab M d (M 217 r)))) → Jr M d l p (M 1 1) (fun i => M 72 i - 48) a := by
        intro a h1 h2
        refine Or.inr ⟨⟨z2, z3⟩, ?_⟩
        rw [q]
        rcases h2 with h2 | ⟨h2, r, h3, h4⟩
        · exact Or.inl ⟨h2, fun r _ w w2 => h1 r h2 w w2.2⟩
        · refine Or.inr ⟨by omega, ⟨r, by have := h3.1; clear h4; omega, h3, ⟨fun i hi => absurd hi (Nat.not_lt_zero _), h4⟩, h2⟩, fun s g _ _ _ hg => ?_⟩
          have : g = 0 := hg
          omega
      refine b_Wb (b_wp_m (fun r0 w => ?_) (t_bare (Q := Q) hG hRr hA hN hp))
      obtain ⟨w1, w2⟩ := w
      refine b_Wi (fun c => b_Ws (jm (-1) (fun r _ => ?_) (Or.inl rfl))) (fun c => b_Ws (jm 0 (fun r z => absurd z (by decide)) (Or.inr ⟨rfl, r0, ?_⟩)))
      · rcases w1 with w1 | w1
        · exact w1.2 r
        · have := w1.1.1.1; omega
      · rcases w1 with w1 | w1
        · exact absurd w1.1 c
        · exact ⟨w1.1, w1.2.1⟩
    · have hk := z4 (M 1 1 - 1) (by omega) (by omega)
      have gx := hA.1.2.1 _ hk.1.1 hk.1.2
      have gT : g_T M (N 130 (Q 139 (M 1 1 - 1))) ≠ -1 := gx.1.1.2.2.2
      have en := hA.2.2.1 _ hk.1.1 hk.1.2
      have e135 := gx.2.2.2.2.2
      rw [hk.2] at gT e135
      unfold g_lb at e135
      rw [if_neg gT] at e135
      rw [e135] at en
      have ejP : ∀ r, jP M d r (fun i => M 72 i - 48) (M 1 1).toNat = x_lab M d (g_T M (M 72 (M 1 1 - 1) - 48)) := by
        intro r
        rw [show (M 1 1).toNat = (M 1 1 - 1).toNat + 1 by omega]
        show x_lab M d (g_T M (M 72 (((M 1 1 - 1).toNat : Nat) : Int) - 48)) = _
        rw [show (((M 1 1 - 1).toNat : Nat) : Int) = M 1 1 - 1 by omega]
      have q7 : Q 7 13 = N 7 13 := z1 7 13 (by decide)
      unfold F_X2_isEnder
      rw [q7, i_bt_ushr (by have := hA.1.1; omega)]
      refine b_Wg (by omega) (b_Wb ?_)
      by_cases qb : i_bt (N 7 13) (Q 139 (M 1 1 - 1)).toNat = true
      · rw [if_pos qb]
        refine b_Wf (by decide) (b_Ws (b_Wf (by decide) (b_Wb (b_wp_m (fun x w => b_Ws (Or.inr ⟨⟨z2, z3⟩, w⟩)) (t_few hG hA hN (by omega) (by omega) z1 z4 (fun r => ?_))))))
        rw [ejP r]
        exact en.mp qb
      · rw [if_neg qb]
        refine b_Wt rfl (b_Ws (b_Wt rfl (b_Ws (Or.inr ⟨⟨z2, z3⟩, Or.inl ⟨rfl, fun r _ _ w => qb (en.mpr ?_)⟩⟩))))
        have := w.2
        rw [ejP r] at this
        exact this
  · obtain ⟨z1, z2, z3⟩ := z
    exact b_Ws (Or.inl ⟨z2, z3⟩)
