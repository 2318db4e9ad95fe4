/-- a PAPER that says something of it -/
def x_gd (M : bM) (d b w k : Int) : Prop := (0 ≤ k ∧ k < M 5 0) ∧ x_W M d b k ∧ x_T M d w k ≠ -1
/-- what is SHOWN: the value, its POINTS, a QUARREL -/
def x_fin (M : bM) (d b w val pts q : Int) : Prop := ∃ mx, 0 ≤ mx ∧ (∀ k, x_gd M d b w k → x_sum M d b w (x_T M d w k) ≤ mx) ∧ (mx = 0 ∨ ∃ k, x_gd M d b w k ∧ x_sum M d b w (x_T M d w k) = mx) ∧ ((¬ (0 < mx ∧ x_rule M d 0 ≤ mx) ∧ val = -1 ∧ pts = 0 ∧ q = 0) ∨ ((0 < mx ∧ x_rule M d 0 ≤ mx) ∧ (∃ k k2, x_gd M d b w k ∧ x_gd M d b w k2 ∧ x_sum M d b w (x_T M d w k) = mx ∧ x_sum M d b w (x_T M d w k2) = mx ∧ x_T M d w k ≠ x_T M d w k2) ∧ val = -1 ∧ pts = 0 ∧ q = 1) ∨ ((0 < mx ∧ x_rule M d 0 ≤ mx) ∧ ∃ t, (∀ k, x_gd M d b w k → x_sum M d b w (x_T M d w k) = mx → x_T M d w k = t) ∧ (∃ k, x_gd M d b w k ∧ x_sum M d b w t = mx ∧ x_T M d w k = t ∧ val = M 196 (3 * k + w)) ∧ (∀ k, x_gd M d b w k → x_T M d w k = t → val ≤ M 196 (3 * k + w)) ∧ pts = mx ∧ q = 0))
theorem x_fin_u {M : bM} {d b w v1 p1 q1 v2 p2 q2 : Int} (h1 : x_fin M d b w v1 p1 q1) (h2 : x_fin M d b w v2 p2 q2) : v1 = v2 ∧ p1 = p2 ∧ q1 = q2 := by
  obtain ⟨m1, a0, a1, a2, a3⟩ := h1
  obtain ⟨m2, b0, b1, b2, b3⟩ := h2
  have e : m1 = m2 := by
    have l1 : m1 ≤ m2 := by
      rcases a2 with a2 | ⟨k, g, e⟩
      · omega
      · have := b1 k g
        omega
    have l2 : m2 ≤ m1 := by
      rcases b2 with b2 | ⟨k, g, e⟩
      · omega
      · have := a1 k g
        omega
    omega
  subst e
  rcases a3 with ⟨a4, a5, a6, a7⟩ | ⟨a4, ⟨k, k2, g1, g2, g3, g4, g5⟩, a5, a6, a7⟩ | ⟨a4, t, f1, ⟨k, f2, f3, f4, f5⟩, f6, a6, a7⟩ <;> rcases b3 with ⟨b4, b5, b6, b7⟩ | ⟨b4, ⟨l, l2, r1, r2, r3, r4, r5⟩, b5, b6, b7⟩ | ⟨b4, t2, s1, ⟨l, s2, s3, s4, s5⟩, s6, b6, b7⟩
  · omega
  · exact absurd b4 a4
  · exact absurd b4 a4
  · exact absurd a4 b4
  · omega
  · exact absurd ((s1 k g1 g3).trans (s1 k2 g2 g4).symm) g5
  · exact absurd a4 b4
  · exact absurd ((f1 l r1 r3).trans (f1 l2 r2 r4).symm) r5
  · have e1 : t = t2 := by
      have := s1 k f2 (by rw [f4]; exact f3)
      rw [f4] at this
      exact this
    subst e1
    have h1 := f6 l s2 s4
    have h2 := s6 k f2 f4
    omega
theorem e_dw {v1 w best bT u q x : Int} {P : bM} (h1 : 0 ≤ v1 ∧ v1 ≤ 290) (hw : 0 ≤ w ∧ w < 3) : F_X4_decide_b163 v1 w best u q (v1 + w) x P = some (if u ≠ 0 ∧ q = 0 then b_up (b_up (b_up P 126 (v1 + w) x) 126 (v1 + 5 + w) 0) 126 (v1 + 9) (i_or (P 126 (v1 + 9)) (i_shl 1 w)) else b_up (b_up P 126 (v1 + w) x) 126 (v1 + 5 + w) (if q = 0 then 0 else best)) := by
  unfold F_X4_decide_b163 F_X4_decide_b183
  rw [b_g_s (by omega), b_let_s, b_g_s (by omega)]
  by_cases q1 : q = 0
  · rw [if_pos q1, if_pos q1, b_g_s (by omega), b_let_s]
    by_cases q2 : u = 0
    · rw [if_pos q2, if_neg (fun z => z.1 q2)]
    · rw [if_neg q2, if_pos q1, b_g_s (by omega), b_let_s, if_pos ⟨q2, q1⟩, b_upi (by omega), b_upi (by omega)]
  · rw [if_neg q1, if_neg q1, b_g_s (by omega), b_let_s, if_neg (show ¬ (u ≠ 0 ∧ q = 0) from fun z => q1 z.2)]
    by_cases q2 : u = 0
    · rw [if_pos q2]
    · rw [if_neg q2, if_neg q1]
/-- places of a BURNT one that decide writes -/
def x_wr (F : Int → Int) (b w val pts q : Int) : Int → Int := fun j => if j = 10 * b + 9 ∧ q = 1 then i_or (F (10 * b + 9)) (i_shl 1 w) else if j = 10 * b + 5 + w then pts else if j = 10 * b + w then val else F j
theorem t_dec {M N : bM} {d b w : Int} (hB : E_b M d) (hN : E_n M N) (h3 : M 3 0 ≤ 60) (hw : 0 ≤ w ∧ w < 3) (hb : 0 ≤ b ∧ b < 30) (hW : E_w M d b (M 5 0) (N 128) (N 6 11)) : b_wp (F_X4_decide (b * 10) w N) (fun P => (∀ c j, c ≠ 126 → c ≠ 129 → P c j = N c j) ∧ ∃ val pts q, x_fin M d b w val pts q ∧ P 126 = x_wr (N 126) b w val pts q) := by
  have s1 := hB.2.2.1.1
  have hm := hW.1
  have hx := x_act_r (d := d) hB.2.2.2.2.1
  unfold F_X4_decide
  refine b_Wb (b_wp_m (fun o y => ?_) (b_loop_ind (P := fun o : Int × Int × Int × bM => (0 ≤ o.1 ∧ o.1 ≤ 23760) ∧ (∀ c j, c ≠ 129 → o.2.2.2 c j = N c j) ∧ (∀ j, 0 ≤ j → j < N 6 11 → x_T M d w (N 128 j) ≠ -1 → x_sum M d b w (x_T M d w (N 128 j)) ≤ o.1) ∧ (o.1 = 0 ∨ ∃ j, (0 ≤ j ∧ j < N 6 11) ∧ x_T M d w (N 128 j) = o.2.2.1 ∧ o.2.2.1 ≠ -1 ∧ x_sum M d b w o.2.2.1 = o.1) ∧ (0 < o.1 → (o.2.1 = 1 → ∀ j, 0 ≤ j → j < N 6 11 → x_T M d w (N 128 j) ≠ -1 → x_sum M d b w (x_T M d w (N 128 j)) = o.1 → x_T M d w (N 128 j) = o.2.2.1) ∧ (o.2.1 ≠ 1 → ∃ j, (0 ≤ j ∧ j < N 6 11) ∧ x_T M d w (N 128 j) ≠ -1 ∧ x_sum M d b w (x_T M d w (N 128 j)) = o.1 ∧ x_T M d w (N 128 j) ≠ o.2.2.1))) (I := fun s : Int × Int × Int × Int × bM => (0 ≤ s.2.2.2.1 ∧ s.2.2.2.1 ≤ N 6 11) ∧ (0 ≤ s.1 ∧ s.1 ≤ 23760) ∧ (0 ≤ s.2.1 ∧ s.2.1 ≤ s.2.2.2.1) ∧ (∀ c j, c ≠ 129 → s.2.2.2.2 c j = N c j) ∧ (∀ j, 0 ≤ j → j < s.2.2.2.1 → x_T M d w (N 128 j) ≠ -1 → x_sum M d b w (x_T M d w (N 128 j)) ≤ s.1) ∧ (s.1 = 0 ∨ ∃ j, (0 ≤ j ∧ j < s.2.2.2.1) ∧ x_T M d w (N 128 j) = s.2.2.1 ∧ s.2.2.1 ≠ -1 ∧ x_sum M d b w s.2.2.1 = s.1) ∧ (0 < s.1 → 1 ≤ s.2.1 ∧ (s.2.1 = 1 → ∀ j, 0 ≤ j → j < s.2.2.2.1 → x_T M d w (N 128 j) ≠ -1 → x_sum M d b w (x_T M d w (N 128 j)) = s.1 → x_T M d w (N 128 j) = s.2.2.1) ∧ (s.2.1 ≠ 1 → ∃ j, (0 ≤ j ∧ j < s.2.2.2.1) ∧ x_T M d w (N 128 j) ≠ -1 ∧ x_sum M d b w (x_T M d w (N 128 j)) = s.1 ∧ x_T M d w (N 128 j) ≠ s.2.2.1))) (fun s => (N 6 11 - s.2.2.2.1).toNat) ?_ (0, 0, -1, 0, N) ⟨by dsimp only; omega, by dsimp only; omega, by dsimp only; omega, fun c j _ => rfl, fun j j0 j1 => by dsimp only at j1; omega, Or.inl rfl, fun z => by dsimp only at z; omega⟩))
  · obtain ⟨best, ties, bT, P⟩ := o
    obtain ⟨y1, y2, y3, y4, y5⟩ := y
    dsimp only at y1 y2 y3 y4 y5 ⊢
    have hP : E_n M P := fun c j c1 c2 c3 c4 => by rw [y2 c j c3]; exact hN c j c1 c2 c3 c4
    have P126 : P 126 = N 126 := funext fun j => y2 126 j (by decide)
    have hle : ∀ k, x_gd M d b w k → x_sum M d b w (x_T M d w k) ≤ best := by
      intro k ⟨k0, k1, k2⟩
      obtain ⟨j, hj, e⟩ := hW.2.2.2 k k0.1 k0.2 k1
      have := y3 j hj.1 hj.2
      rw [e] at this
      exact this k2
    have hat : best = 0 ∨ ∃ k, x_gd M d b w k ∧ x_sum M d b w (x_T M d w k) = best := by
      rcases y4 with z | ⟨j, hj, z1, z2, z3⟩
      · exact Or.inl z
      · have hk := hW.2.1 j hj.1 hj.2
        exact Or.inr ⟨N 128 j, ⟨hk.1, hk.2, by rw [z1]; exact z2⟩, by rw [z1]; exact z3⟩
    have fr : ∀ (F : bM), (∀ c j, c ≠ 126 → F c j = P c j) → ∀ c j, c ≠ 126 → c ≠ 129 → F c j = N c j := fun F h c j c1 c2 => by rw [h c j c1]; exact y2 c j c2
    have none : ¬ (0 < best ∧ x_rule M d 0 ≤ best) → b_wp (F_X4_decide_b119 (b * 10) w best ties bT P) (fun P2 => (∀ c j, c ≠ 126 → c ≠ 129 → P2 c j = N c j) ∧ ∃ val pts q, x_fin M d b w val pts q ∧ P2 126 = x_wr (N 126) b w val pts q) := by
      intro z
      unfold F_X4_decide_b119 F_X4_decide_b120 F_X4_decide_b137 F_X4_decide_b138
      refine b_Wt rfl (b_Wg (by omega) (b_Wt rfl (b_wp_of (e_dw (bT := bT) (by omega) hw) ?_)))
      rw [if_neg (fun z => z.1 rfl), if_pos rfl]
      refine ⟨fr _ (fun c j hc => by rw [b_upc hc, b_upc hc]), -1, 0, 0, ⟨best, y1.1, hle, hat, Or.inl ⟨z, rfl, rfl, rfl⟩⟩, ?_⟩
      funext j
      unfold x_wr
      rw [b_upJ, b_upJ, if_neg (show ¬ (j = 10 * b + 9 ∧ (0 : Int) = 1) by omega), P126, show b * 10 + 5 + w = 10 * b + 5 + w by omega, show b * 10 + w = 10 * b + w by omega]
    unfold F_X4_decide_b99
    refine b_Wi (fun z => none (by omega)) (fun z => b_We (e_X4_actThen hB hP) (b_Wg (by omega) (b_We (e_toldE hB hP (by omega)) (b_Wi (fun z2 => none (by omega)) (fun z2 => ?_)))))
    unfold F_X4_decide_b120 F_X4_decide_b137
    have y6 := y5 (by omega)
    refine b_Wf (by decide) (b_Wi (fun z3 => ?_) (fun z3 => ?_))
    · unfold F_X4_decide_b138
      rcases y4 with z4 | ⟨j0, hj0, z4, z5, z6⟩
      · omega
      have hWP : E_w M d b (M 5 0) (P 128) (P 6 11) := by rw [y2 6 11 (by decide), show P 128 = N 128 from funext fun j => y2 128 j (by decide)]; exact hW
      refine b_Wg (by omega) (b_Wf (by decide) (b_Wb (b_wp_m (fun x yx => ?_) (t_lnb (t := bT) hB hP hw hWP))))
      rw [y2 6 11 (by decide), show P 128 = N 128 from funext fun j => y2 128 j (by decide)] at yx
      obtain ⟨x1, x2⟩ := yx
      refine b_wp_of (e_dw (bT := bT) (by omega) hw) ?_
      rw [if_neg (fun z => by omega), if_neg (by decide)]
      have say : ∀ k, (0 ≤ k ∧ k < M 5 0) → M 196 (3 * k + w) = M 115 (3 * k + w) ∧ M 115 (3 * k + w) < 140 := by
        intro k hk
        obtain ⟨p1, p2, p3, p4, p5, p6, p7, p8⟩ := hB.2.2.2.1 k hk.1 hk.2
        have r1 := hB.1.1
        have : w = 0 ∨ w = 1 ∨ w = 2 := by omega
        rcases this with rfl | rfl | rfl
        · rw [show 3 * k + 0 = 3 * k by omega]; omega
        · omega
        · omega
      have hk0 := hW.2.1 j0 hj0.1 hj0.2
      refine ⟨fr _ (fun c j hc => by rw [b_upc hc, b_upc hc]), x, best, 0, ⟨best, y1.1, hle, hat, Or.inr (Or.inr ⟨by omega, bT, ?_, ?_, ?_, rfl, rfl⟩)⟩, ?_⟩
      · intro k ⟨k0, k1, k2⟩ k3
        obtain ⟨j, hj, e⟩ := hW.2.2.2 k k0.1 k0.2 k1
        have := y6.1 z3 j hj.1 hj.2
        rw [e] at this
        exact this k2 k3
      · rcases x1 with x1 | ⟨j, hj, x3, x4⟩
        · have := x2 j0 hj0.1 hj0.2 z4
          have := say _ hk0.1
          omega
        · have hk := hW.2.1 j hj.1 hj.2
          refine ⟨N 128 j, ⟨hk.1, hk.2, by rw [x3]; exact z5⟩, z6, x3, ?_⟩
          rw [(say _ hk.1).1]
          exact x4
      · intro k ⟨k0, k1, k2⟩ k3
        obtain ⟨j, hj, e⟩ := hW.2.2.2 k k0.1 k0.2 k1
        have := x2 j hj.1 hj.2
        rw [e] at this
        rw [(say k k0).1]
        exact this k3
      · funext j
        unfold x_wr
        rw [b_upJ, b_upJ, if_neg (show ¬ (j = 10 * b + 9 ∧ (0 : Int) = 1) by omega), P126, show b * 10 + 5 + w = 10 * b + 5 + w by omega, show b * 10 + w = 10 * b + w by omega]
    · unfold F_X4_decide_b138
      refine b_Wg (by omega) (b_Wt rfl (b_wp_of (e_dw (bT := bT) (by omega) hw) ?_))
      rw [if_pos ⟨by decide, rfl⟩]
      rcases y4 with z4 | ⟨j0, hj0, z4, z5, z6⟩
      · omega
      obtain ⟨j1, hj1, r1, r2, r3⟩ := y6.2 z3
      have hk0 := hW.2.1 j0 hj0.1 hj0.2
      have hk1 := hW.2.1 j1 hj1.1 hj1.2
      refine ⟨fr _ (fun c j hc => by rw [b_upc hc, b_upc hc, b_upc hc]), -1, 0, 1, ⟨best, y1.1, hle, hat, Or.inr (Or.inl ⟨by omega, ⟨N 128 j1, N 128 j0, ⟨hk1.1, hk1.2, r1⟩, ⟨hk0.1, hk0.2, by rw [z4]; exact z5⟩, r2, by rw [z4]; exact z6, by rw [z4]; exact r3⟩, rfl, rfl, rfl⟩)⟩, ?_⟩
      funext j
      unfold x_wr
      rw [b_upJ, b_upJ, b_upJ, P126, show b * 10 + 5 + w = 10 * b + 5 + w by omega, show b * 10 + w = 10 * b + w by omega, show b * 10 + 9 = 10 * b + 9 by omega]
      by_cases qj : j = 10 * b + 9
      · rw [if_pos qj, if_pos ⟨qj, rfl⟩]
      · rw [if_neg qj, if_neg (show ¬ (j = 10 * b + 9 ∧ (1 : Int) = 1) from fun z => qj z.1)]
  · intro ⟨best, ties, bT, i, P⟩ ⟨h1, h2, h4, h5, h6, h7, h8⟩
    dsimp only at h1 h2 h4 h5 h6 h7 h8 ⊢
    have hP : E_n M P := fun c j c1 c2 c3 c4 => by rw [h5 c j c3]; exact hN c j c1 c2 c3 c4
    have p11 := h5 6 11 (by decide)
    have p128 : P 128 = N 128 := funext fun j => h5 128 j (by decide)
    have hWP : E_w M d b (M 5 0) (P 128) (P 6 11) := by rw [p11, p128]; exact hW
    unfold F_X4_decide_s11
    rw [p11]
    by_cases q : N 6 11 ≤ i
    · refine b_Wt q (b_Ws ⟨h2, h5, fun j j0 j1 => h6 j j0 (by omega), ?_, fun z => ?_⟩)
      · rcases h7 with z | ⟨j, hj, z⟩
        · exact Or.inl z
        · exact Or.inr ⟨j, by omega, z⟩
      · have := h8 z
        refine ⟨fun z2 j j0 j1 => this.2.1 z2 j j0 (by omega), fun z2 => ?_⟩
        obtain ⟨j, hj, z3⟩ := this.2.2 z2
        exact ⟨j, by omega, z3⟩
    · have hk := hW.2.1 i h1.1 (by omega)
      have h7' : best = 0 ∨ ∃ j, (0 ≤ j ∧ j < i + 1) ∧ x_T M d w (N 128 j) = bT ∧ bT ≠ -1 ∧ x_sum M d b w bT = best := by
        rcases h7 with z | ⟨j, hj, z⟩
        · exact Or.inl z
        · exact Or.inr ⟨j, by omega, z⟩
      have skip : (x_T M d w (N 128 i) = -1 ∨ ∃ j, (0 ≤ j ∧ j < i) ∧ x_T M d w (N 128 j) = x_T M d w (N 128 i)) → ((0 ≤ i + 1 ∧ i + 1 ≤ N 6 11) ∧ (0 ≤ best ∧ best ≤ 23760) ∧ (0 ≤ ties ∧ ties ≤ i + 1) ∧ (∀ c j, c ≠ 129 → P c j = N c j) ∧ (∀ j, 0 ≤ j → j < i + 1 → x_T M d w (N 128 j) ≠ -1 → x_sum M d b w (x_T M d w (N 128 j)) ≤ best) ∧ (best = 0 ∨ ∃ j, (0 ≤ j ∧ j < i + 1) ∧ x_T M d w (N 128 j) = bT ∧ bT ≠ -1 ∧ x_sum M d b w bT = best) ∧ (0 < best → 1 ≤ ties ∧ (ties = 1 → ∀ j, 0 ≤ j → j < i + 1 → x_T M d w (N 128 j) ≠ -1 → x_sum M d b w (x_T M d w (N 128 j)) = best → x_T M d w (N 128 j) = bT) ∧ (ties ≠ 1 → ∃ j, (0 ≤ j ∧ j < i + 1) ∧ x_T M d w (N 128 j) ≠ -1 ∧ x_sum M d b w (x_T M d w (N 128 j)) = best ∧ x_T M d w (N 128 j) ≠ bT))) ∧ (N 6 11 - (i + 1)).toNat < (N 6 11 - i).toNat := by
        intro z
        have ext : ∀ (Q : Int → Prop), (∀ j, 0 ≤ j → j < i → x_T M d w (N 128 j) ≠ -1 → Q (x_T M d w (N 128 j))) → ∀ j, 0 ≤ j → j < i + 1 → x_T M d w (N 128 j) ≠ -1 → Q (x_T M d w (N 128 j)) := by
          intro Q hQ j j0 j1 jn
          by_cases qj : j = i
          · subst qj
            rcases z with z | ⟨l, hl, z⟩
            · exact absurd z jn
            · rw [← z] at jn ⊢
              exact hQ l hl.1 hl.2 jn
          · exact hQ j j0 (by omega) jn
        refine ⟨⟨by omega, h2, by omega, h5, ext (fun t => x_sum M d b w t ≤ best) h6, h7', fun z2 => ?_⟩, by omega⟩
        have := h8 z2
        refine ⟨this.1, fun z3 => ext (fun t => x_sum M d b w t = best → t = bT) (this.2.1 z3), fun z3 => ?_⟩
        obtain ⟨j, hj, z4⟩ := this.2.2 z3
        exact ⟨j, by omega, z4⟩
      refine b_Wf q (b_Wg (by omega) ?_)
      rw [p128]
      refine b_We (e_X4_thing hB hP hk.1 hw) (b_Wi (fun q1 => b_Wg (by omega) (b_Ws (skip (Or.inl q1)))) (fun q1 => b_Wb (b_wp_m (fun r yr => ?_) (t_wsd (t := x_T M d w (N 128 i)) hB hP hw hWP ⟨h1.1, by omega⟩))))
      rw [p128] at yr
      rcases yr with ⟨rfl, y1⟩ | ⟨rfl, y1⟩
      · refine b_Wt rfl (b_Wb (b_wp_m (fun o yo => ?_) (t_smo (t := x_T M d w (N 128 i)) hB hP hw hWP)))
        obtain ⟨x, P2⟩ := o
        obtain ⟨o1, o2, o3⟩ := yo
        dsimp only at o1 o2 o3
        refine b_Wtwo ?_
        dsimp only
        have h5' : ∀ c j, c ≠ 129 → P2 c j = N c j := fun c j hc => by rw [o3 c j hc]; exact h5 c j hc
        unfold F_X4_decide_b77 F_X4_decide_b90
        refine b_Wi (fun q2 => b_Wi (fun q3 => b_Wg (by omega) (b_Ws ⟨⟨by dsimp only; omega, h2, by dsimp only; omega, h5', fun j j0 j1 jn => ?_, h7', fun z => ⟨by dsimp only; omega, fun z2 => ?_, fun z2 => ?_⟩⟩, by dsimp only; omega⟩)) (fun q3 => b_Wg (by omega) (b_Ws ⟨⟨by dsimp only; omega, h2, by dsimp only; omega, h5', fun j j0 j1 jn => ?_, h7', fun z => ⟨?_, fun z2 j j0 j1 jn => ?_, fun z2 => ?_⟩⟩, by dsimp only; omega⟩))) (fun q2 => b_Wt rfl (b_Wg (by omega) (b_Ws ⟨⟨by dsimp only; omega, by dsimp only; omega, by dsimp only; omega, h5', fun j j0 j1 jn => ?_, Or.inr ⟨i, by dsimp only; omega, rfl, q1, by dsimp only; omega⟩, fun z => ⟨by dsimp only; omega, fun z2 j j0 j1 jn => ?_, fun z2 => by dsimp only at z2; omega⟩⟩, by dsimp only; omega⟩)))
        · dsimp only at j1 ⊢
          by_cases qj : j = i
          · subst qj; omega
          · exact h6 j j0 (by omega) jn
        · dsimp only at z z2
          have := (h8 z).1
          omega
        · dsimp only at z ⊢
          refine ⟨i, by omega, q1, by omega, fun e => ?_⟩
          rcases h7 with z4 | ⟨j0, hj0, z4, z5, z6⟩
          · omega
          · exact y1 j0 hj0.1 hj0.2 (by rw [z4, e])
        · dsimp only at j1 ⊢
          by_cases qj : j = i
          · subst qj; omega
          · exact h6 j j0 (by omega) jn
        · dsimp only at z ⊢
          have := (h8 z).1
          omega
        · dsimp only at z z2 j1 ⊢
          by_cases qj : j = i
          · subst qj
            intro e
            clear h7 h7' h8 skip
            omega
          · exact (h8 z).2.1 (by omega) j j0 (by omega) jn
        · dsimp only at z z2 ⊢
          obtain ⟨j, hj, z4⟩ := (h8 z).2.2 (by omega)
          exact ⟨j, by omega, z4⟩
        · dsimp only at j1 ⊢
          by_cases qj : j = i
          · subst qj; omega
          · have := h6 j j0 (by omega) jn
            omega
        · dsimp only at j1 ⊢
          by_cases qj : j = i
          · subst qj
            exact fun _ => rfl
          · intro e
            have := h6 j j0 (by omega) jn
            omega
      · exact b_Wf (by decide) (b_Wg (by omega) (b_Ws (skip (Or.inr y1))))
