/-- what the reference found, as the class keeps it -/
def fN (N : bM) : Int → Int := fun j => if j < 4 then N 11 (84 + j) else N 219 (j - 4)
theorem t_cBare {M N : bM} {d l p : Int} (hO : O_all M d) (hp : 0 ≤ p ∧ p < M 2 0) (hZ : Zc M d l p N) : b_wp (b_loop (fun s : Int × Int => F_X12_makeChain_s73 s.1 s.2 N) (-1, M 11 20 - 1)) (fun r => Br M d l p r ∧ -1 ≤ r ∧ r < M 11 20) := by
  have l1 := hO.1.1.2.2.1.1
  refine b_loop_ind (I := fun s : Int × Int => (-1 ≤ s.2 ∧ s.2 < M 11 20) ∧ ((s.1 = -1 ∧ ∀ r, s.2 < r → g_rt M l r → ¬ g_en M d p (x_lab M d (M 217 r))) ∨ (s.2 < s.1 ∧ g_rt M l s.1 ∧ g_en M d p (x_lab M d (M 217 s.1)) ∧ ∀ r, s.2 < r → r < s.1 → g_rt M l r → ¬ g_en M d p (x_lab M d (M 217 r))))) (fun s => (s.2 + 1).toNat) ?_ (-1, M 11 20 - 1) ⟨by dsimp only; omega, Or.inl ⟨rfl, fun r hr w => by have := w.1; dsimp only at hr; omega⟩⟩
  intro ⟨v, r⟩ ⟨h1, h2⟩
  dsimp only at h1 h2 ⊢
  unfold F_X12_makeChain_s73
  by_cases q : r < 0
  · have re : r = -1 := by omega
    refine b_Wt q (b_Ws ?_)
    rcases h2 with ⟨h3, h4⟩ | ⟨h3, h4, h5, h6⟩
    · exact ⟨Or.inl ⟨h3, fun r' w => h4 r' (by have := w.1; omega) w⟩, by omega, by omega⟩
    · exact ⟨Or.inr ⟨h4, h5, fun r' hr' w => h6 r' (by have := w.1; omega) hr' w⟩, by have := h4.1; omega, h4.1.2⟩
  · have skip : (g_rt M l r → ¬ g_en M d p (x_lab M d (M 217 r))) → ((-1 ≤ r + -1 ∧ r + -1 < M 11 20) ∧ ((v = -1 ∧ ∀ r', r + -1 < r' → g_rt M l r' → ¬ g_en M d p (x_lab M d (M 217 r'))) ∨ (r + -1 < v ∧ g_rt M l v ∧ g_en M d p (x_lab M d (M 217 v)) ∧ ∀ r', r + -1 < r' → r' < v → g_rt M l r' → ¬ g_en M d p (x_lab M d (M 217 r'))))) ∧ (r + -1 + 1).toNat < (r + 1).toNat := by
      intro z
      refine ⟨⟨by omega, ?_⟩, by omega⟩
      rcases h2 with ⟨h3, h4⟩ | ⟨h3, h4, h5, h6⟩
      · refine Or.inl ⟨h3, fun r' hr' => ?_⟩
        by_cases qr : r' = r
        · subst qr; exact z
        · exact h4 r' (by omega)
      · refine Or.inr ⟨by omega, h4, h5, fun r' hr' => ?_⟩
        by_cases qr : r' = r
        · subst qr; exact fun _ => z
        · exact h6 r' (by omega)
    have q217 : N 217 r = M 217 r := hZ.1 217 r rfl
    rw [q217]
    refine b_Wf q (b_Wb (b_wp_m (fun y w => ?_) (t_oRoot hO hZ (r := r) (by omega))))
    refine b_Wi (fun z => b_Wg (by omega) (b_Ws (skip (fun w' => by have := w.2.mpr w'; omega)))) (fun z => b_Wg (by omega) ?_)
    have hrt := w.2.mp (w.1.resolve_left z)
    refine b_Wb (b_wp_m (fun y2 w2 => ?_) (t_oEnd hO hZ hp (root_r hO (by omega) hrt.2.1)))
    refine b_Wi (fun z2 => b_Wg (by omega) (b_Ws (skip (fun _ w' => by have := w2.2.mpr w'; omega)))) (fun z2 => b_Wg (by omega) (b_Ws ⟨⟨by dsimp only; omega, Or.inr ⟨by dsimp only; omega, hrt, w2.2.mp (w2.1.resolve_left z2), fun r' x0 x1 => by dsimp only at x0 x1; omega⟩⟩, by dsimp only; omega⟩))
theorem t_cBest {M N : bM} {d l p v4 u0 : Int} (hO : O_all M d) (hZ : Zw M d l p N) : b_wp (b_loop (fun s : Int × Int × Int × bM => F_X12_makeChain_s136 v4 s.1 s.2.1 s.2.2.1 s.2.2.2) (u0, 0, 0, N)) (fun o => (∀ c j, c ≠ 220 → o.2.2 c j = N c j) ∧ ((o.1 = u0 ∧ o.2.1 = 0 ∧ ¬ Ch M d l p (u0 + 1)) ∨ (o.2.1 = 1 ∧ Gw M d l p (u0 + 1) o.1 ∧ u0 < o.1))) := by
  have b1 := hO.1.1.2.2.2.2.2.2.2.2.2
  have b0 := hO.1.1.2.2.2.2.2.2.2.2.1
  refine b_loop_ind (I := fun s : Int × Int × Int × bM => (0 ≤ s.2.2.1 ∧ s.2.2.1 ≤ M 6 0) ∧ (∀ c j, c ≠ 220 → s.2.2.2 c j = N c j) ∧ ((s.1 = u0 ∧ s.2.1 = 0 ∧ ∀ b, 0 ≤ b → b < s.2.2.1 → u0 < g_p M b → ¬ Ch M d l p (g_p M b)) ∨ (s.2.1 = 1 ∧ u0 < s.1 ∧ Ch M d l p s.1 ∧ (∃ b, (0 ≤ b ∧ b < M 6 0) ∧ s.1 = g_p M b) ∧ ∀ b, 0 ≤ b → b < s.2.2.1 → u0 < g_p M b → Ch M d l p (g_p M b) → g_p M b ≤ s.1))) (fun s => (M 6 0 - s.2.2.1).toNat) ?_ (u0, 0, 0, N) ⟨by dsimp only; omega, fun _ _ _ => rfl, Or.inl ⟨rfl, rfl, fun b x0 x1 => by dsimp only at x1; omega⟩⟩
  intro ⟨best, has, b, P⟩ ⟨h1, h2, h3⟩
  dsimp only at h1 h2 h3 ⊢
  have zP : Zw M d l p P := Zw_up hZ (fun c j _ c2 _ => h2 c j c2)
  have n52 : P 11 52 = M 6 0 := by rw [zP.1.1 11 52 (by decide)]; exact b0
  unfold F_X12_makeChain_s136
  rw [n52]
  by_cases q : M 6 0 ≤ b
  · refine b_Wt q (b_Ws ⟨h2, ?_⟩)
    rcases h3 with ⟨h4, h5, h6⟩ | ⟨h4, h5, h6, ⟨b', hb', e'⟩, h7⟩
    · refine Or.inl ⟨h4, h5, fun hc => ?_⟩
      obtain ⟨c, c1, c2, c3⟩ := Ch_w hc
      exact h6 c c1.1.1 (by have := c1.1.2; omega) (by omega) c3
    · refine Or.inr ⟨h4, Or.inr ⟨h6, by dsimp only; omega, ?_, fun c c1 c2 c3 => h7 c c1.1.1 (by have := c1.1.2; omega) (by omega) c3⟩, h5⟩
      obtain ⟨c, c1, c2, c3⟩ := Ch_w h6
      have := h7 c c1.1.1 (by have := c1.1.2; omega) (by omega) c3
      exact ⟨c, c1, by dsimp only; omega⟩
  · have hb : 0 ≤ b ∧ b < M 6 0 := ⟨h1.1, by omega⟩
    obtain ⟨_, _, _, u5⟩ := Zw_e hO zP hb
    have skip : ∀ P2 : bM, (∀ c j, c ≠ 220 → P2 c j = N c j) → (g_p M b ≤ best ∨ ¬ Ch M d l p (g_p M b)) → ((0 ≤ b + 1 ∧ b + 1 ≤ M 6 0) ∧ (∀ c j, c ≠ 220 → P2 c j = N c j) ∧ ((best = u0 ∧ has = 0 ∧ ∀ b', 0 ≤ b' → b' < b + 1 → u0 < g_p M b' → ¬ Ch M d l p (g_p M b')) ∨ (has = 1 ∧ u0 < best ∧ Ch M d l p best ∧ (∃ b, (0 ≤ b ∧ b < M 6 0) ∧ best = g_p M b) ∧ ∀ b', 0 ≤ b' → b' < b + 1 → u0 < g_p M b' → Ch M d l p (g_p M b') → g_p M b' ≤ best))) ∧ (M 6 0 - (b + 1)).toNat < (M 6 0 - b).toNat := by
      intro P2 hP2 z
      refine ⟨⟨by omega, hP2, ?_⟩, by omega⟩
      rcases h3 with ⟨h4, h5, h6⟩ | ⟨h4, h5, h6, h8, h7⟩
      · refine Or.inl ⟨h4, h5, fun b' x0 x1 x2 => ?_⟩
        by_cases qb : b' = b
        · subst qb
          rcases z with z | z
          · omega
          · exact z
        · exact h6 b' x0 (by omega) x2
      · refine Or.inr ⟨h4, h5, h6, h8, fun b' x0 x1 x2 x3 => ?_⟩
        by_cases qb : b' = b
        · subst qb
          rcases z with z | z
          · exact z
          · exact absurd x3 z
        · exact h7 b' x0 (by omega) x2 x3
    refine b_Wf q (b_We u5 (b_Wi (fun z => b_Wg (by omega) (b_Ws (skip P h2 (Or.inl z)))) (fun z => b_We u5 (b_Wb (b_wp_m (fun o y => ?_) (t_fewest (x := g_p M b) hO zP))))))
    obtain ⟨f, P2⟩ := o
    obtain ⟨y1, y2, y3⟩ := y
    dsimp only at y1 y2 y3
    have h2' : ∀ c j, c ≠ 220 → P2 c j = N c j := fun c j hc => by rw [y1 c j hc]; exact h2 c j hc
    have zP2 : Zw M d l p P2 := Zw_up hZ (fun c j _ c2 _ => h2' c j c2)
    obtain ⟨_, _, _, u6⟩ := Zw_e hO zP2 hb
    refine b_Wtwo ?_
    dsimp only
    rcases y3 with ⟨y3, y4⟩ | ⟨t, y3, y4⟩
    · exact b_Wt y3 (b_Wg (by omega) (b_Ws (skip P2 h2' (Or.inr y4))))
    · have hch : Ch M d l p (g_p M b) := ⟨t, y4.1, y4.2.1⟩
      refine b_Wf (by omega) (b_We u6 (b_Wg (by omega) (b_Ws ⟨⟨by dsimp only; omega, h2', Or.inr ⟨rfl, ?_, hch, ⟨b, hb, rfl⟩, fun b' x0 x1 x2 x3 => ?_⟩⟩, by dsimp only; omega⟩)))
      · dsimp only
        rcases h3 with ⟨h4, _⟩ | ⟨_, h5, _⟩ <;> omega
      · dsimp only at x1 ⊢
        by_cases qb : b' = b
        · subst qb; exact Int.le_refl _
        · rcases h3 with ⟨h4, h5, h6⟩ | ⟨h4, h5, h6, h8, h7⟩
          · exact absurd x3 (h6 b' x0 (by omega) x2)
          · have := h7 b' x0 (by omega) x2 x3
            omega
theorem t_cGap {M N : bM} {d l p : Int} (hO : O_all M d) (hZ : Zw M d l p N) : b_wp (b_loop (fun s : Int × Int × Int × bM => F_X12_makeChain_s258 s.1 s.2.1 s.2.2.1 s.2.2.2) (-1, -1, 0, N)) (fun o => (∀ c j, ¬ (c = 11 ∧ j = 87) → o.2.2 c j = N c j) ∧ ((o.2.1 = -1 ∧ ∀ r b, ¬ Vp M d l p r b) ∨ (0 ≤ o.2.1 ∧ Gp M d l p o.1 (o.2.2 11 87) o.2.1))) := by
  have b1 := hO.1.1.2.2.2.2.2.2.2.2.2
  have b0 := hO.1.1.2.2.2.2.2.2.2.2.1
  have l1 := hO.1.1.2.2.1.1
  refine b_loop_ind (I := fun s : Int × Int × Int × bM => (0 ≤ s.2.2.1 ∧ s.2.2.1 ≤ M 11 20) ∧ (∀ c j, ¬ (c = 11 ∧ j = 87) → s.2.2.2 c j = N c j) ∧ ((s.1 = -1 ∧ s.2.1 = -1 ∧ ∀ r b, r < s.2.2.1 → ¬ Vp M d l p r b) ∨ (0 ≤ s.1 ∧ 0 ≤ s.2.1 ∧ Vp M d l p (s.2.2.2 11 87) s.2.1 ∧ s.1 = g_p M s.2.1 ∧ s.2.2.2 11 87 < s.2.2.1 ∧ ∀ r b, r < s.2.2.1 → Vp M d l p r b → g_p M b ≤ s.1 ∧ (g_p M b = s.1 → s.2.2.2 11 87 < r ∨ (s.2.2.2 11 87 = r ∧ s.2.1 ≤ b))))) (fun s => (M 11 20 - s.2.2.1).toNat) ?_ (-1, -1, 0, N) ⟨by dsimp only; omega, fun _ _ _ => rfl, Or.inl ⟨rfl, rfl, fun r b hr w => by have := w.1.1; dsimp only at hr; omega⟩⟩
  intro ⟨best, wh, r, P⟩ ⟨h1, h2, h3⟩
  dsimp only at h1 h2 h3 ⊢
  have n20 : P 11 20 = M 11 20 := by rw [h2 11 20 (by omega)]; exact hZ.1.1 11 20 (by decide)
  unfold F_X12_makeChain_s258
  rw [n20]
  by_cases q : M 11 20 ≤ r
  · have all : ∀ r' b, Vp M d l p r' b → r' < r := fun r' b w => by have := w.1.1; omega
    refine b_Wt q (b_Ws ⟨h2, ?_⟩)
    rcases h3 with ⟨h4, h5, h6⟩ | ⟨h4, h5, h6, h7, h8, h9⟩
    · exact Or.inl ⟨h5, fun r' b w => h6 r' b (all r' b w) w⟩
    · exact Or.inr ⟨h5, h6, h7, fun r' b w => h9 r' b (all r' b w) w⟩
  · refine b_Wf q (b_Wb (b_wp_m (fun o y => ?_) (b_loop_ind (P := fun o : Int × Int × bM => (∀ c j, ¬ (c = 11 ∧ j = 87) → o.2.2 c j = N c j) ∧ ((o.1 = -1 ∧ o.2.1 = -1 ∧ ∀ r' b, r' < r + 1 → ¬ Vp M d l p r' b) ∨ (0 ≤ o.1 ∧ 0 ≤ o.2.1 ∧ Vp M d l p (o.2.2 11 87) o.2.1 ∧ o.1 = g_p M o.2.1 ∧ o.2.2 11 87 < r + 1 ∧ ∀ r' b, r' < r + 1 → Vp M d l p r' b → g_p M b ≤ o.1 ∧ (g_p M b = o.1 → o.2.2 11 87 < r' ∨ (o.2.2 11 87 = r' ∧ o.2.1 ≤ b))))) (I := fun s : Int × Int × Int × bM => (0 ≤ s.2.2.1 ∧ s.2.2.1 ≤ M 6 0) ∧ (∀ c j, ¬ (c = 11 ∧ j = 87) → s.2.2.2 c j = N c j) ∧ ((s.1 = -1 ∧ s.2.1 = -1 ∧ ∀ r' b, (r' < r ∨ (r' = r ∧ b < s.2.2.1)) → ¬ Vp M d l p r' b) ∨ (0 ≤ s.1 ∧ 0 ≤ s.2.1 ∧ Vp M d l p (s.2.2.2 11 87) s.2.1 ∧ s.1 = g_p M s.2.1 ∧ (s.2.2.2 11 87 < r ∨ (s.2.2.2 11 87 = r ∧ s.2.1 < s.2.2.1)) ∧ ∀ r' b, (r' < r ∨ (r' = r ∧ b < s.2.2.1)) → Vp M d l p r' b → g_p M b ≤ s.1 ∧ (g_p M b = s.1 → s.2.2.2 11 87 < r' ∨ (s.2.2.2 11 87 = r' ∧ s.2.1 ≤ b))))) (fun s => (M 6 0 - s.2.2.1).toNat) ?_ (best, wh, 0, P) ⟨by dsimp only; omega, h2, ?_⟩)))
    · obtain ⟨bs, w2, P2⟩ := o
      dsimp only at y ⊢
      unfold F_X12_makeChain_b353
      exact b_Wg (by omega) (b_Ws ⟨⟨by dsimp only; omega, y.1, y.2⟩, by dsimp only; omega⟩)
    · intro ⟨bs, w2, b, S⟩ ⟨k1, k2, k3⟩
      dsimp only at k1 k2 k3 ⊢
      have zS : Zw M d l p S := Zw_up hZ (fun c j _ _ c3 => k2 c j (by omega))
      have n52 : S 11 52 = M 6 0 := by rw [zS.1.1 11 52 (by decide)]; exact b0
      have n218 : S 218 r = M 218 r := zS.1.1 218 r rfl
      unfold F_X12_makeChain_s270
      rw [n52, n218]
      have allP : (∀ b', Vp M d l p r b' → b' < b) → ((∀ c j, ¬ (c = 11 ∧ j = 87) → S c j = N c j) ∧ ((bs = -1 ∧ w2 = -1 ∧ ∀ r' b, r' < r + 1 → ¬ Vp M d l p r' b) ∨ (0 ≤ bs ∧ 0 ≤ w2 ∧ Vp M d l p (S 11 87) w2 ∧ bs = g_p M w2 ∧ S 11 87 < r + 1 ∧ ∀ r' b, r' < r + 1 → Vp M d l p r' b → g_p M b ≤ bs ∧ (g_p M b = bs → S 11 87 < r' ∨ (S 11 87 = r' ∧ w2 ≤ b))))) := by
        intro ex
        have cv : ∀ r' b', r' < r + 1 → Vp M d l p r' b' → (r' < r ∨ (r' = r ∧ b' < b)) := by
          intro r' b' hr' w
          by_cases qr : r' = r
          · subst qr; exact Or.inr ⟨rfl, ex b' w⟩
          · exact Or.inl (by omega)
        refine ⟨k2, ?_⟩
        rcases k3 with ⟨k4, k5, k6⟩ | ⟨k4, k5, k6, k7, k8, k9⟩
        · exact Or.inl ⟨k4, k5, fun r' b' hr' w => k6 r' b' (cv r' b' hr' w) w⟩
        · exact Or.inr ⟨k4, k5, k6, k7, by omega, fun r' b' hr' w => k9 r' b' (cv r' b' hr' w) w⟩
      by_cases qb : M 6 0 ≤ b
      · exact b_Wt qb (b_Ws (allP (fun b' w => by have := w.2.1.1; omega)))
      · have hb : 0 ≤ b ∧ b < M 6 0 := ⟨k1.1, by omega⟩
        obtain ⟨_, u3, u4, u5⟩ := Zw_e hO zS hb
        have hrr := G_r hO.1 hb
        have hw := zS.2.1 b hb.1 hb.2
        have skip : ¬ (Vp M d l p r b ∧ bs < g_p M b) → ((0 ≤ b + 1 ∧ b + 1 ≤ M 6 0) ∧ (∀ c j, ¬ (c = 11 ∧ j = 87) → S c j = N c j) ∧ ((bs = -1 ∧ w2 = -1 ∧ ∀ r' b', (r' < r ∨ (r' = r ∧ b' < b + 1)) → ¬ Vp M d l p r' b') ∨ (0 ≤ bs ∧ 0 ≤ w2 ∧ Vp M d l p (S 11 87) w2 ∧ bs = g_p M w2 ∧ (S 11 87 < r ∨ (S 11 87 = r ∧ w2 < b + 1)) ∧ ∀ r' b', (r' < r ∨ (r' = r ∧ b' < b + 1)) → Vp M d l p r' b' → g_p M b' ≤ bs ∧ (g_p M b' = bs → S 11 87 < r' ∨ (S 11 87 = r' ∧ w2 ≤ b'))))) ∧ (M 6 0 - (b + 1)).toNat < (M 6 0 - b).toNat := by
          intro z
          refine ⟨⟨by omega, k2, ?_⟩, by omega⟩
          rcases k3 with ⟨k4, k5, k6⟩ | ⟨k4, k5, k6, k7, k8, k9⟩
          · refine Or.inl ⟨k4, k5, fun r' b' hb' w => ?_⟩
            by_cases qq : r' = r ∧ b' = b
            · obtain ⟨rfl, rfl⟩ := qq
              exact z ⟨w, by omega⟩
            · exact k6 r' b' (by omega) w
          · refine Or.inr ⟨k4, k5, k6, k7, by omega, fun r' b' hb' w => ?_⟩
            by_cases qq : r' = r ∧ b' = b
            · obtain ⟨rfl, rfl⟩ := qq
              have hz : ¬ bs < g_p M b' := fun y => z ⟨w, y⟩
              exact ⟨by omega, fun _ => by omega⟩
            · exact k9 r' b' (by omega) w
        refine b_Wf qb (b_Wb (b_wp_m (fun y w => ?_) (t_oRoot hO zS.1 (r := r) ⟨h1.1, by omega⟩)))
        refine b_Wi (fun z => b_Ws (allP (fun b' w' => by have := w.2.mpr w'.1; omega))) (fun z => b_Wg (by omega) (b_Wi (fun z2 => b_Wg (by omega) (b_Ws (skip (fun w' => by have := hw.2.mpr ⟨w'.1.2.1, w'.1.2.2.1⟩; omega)))) (fun z2 => b_Wg (by omega) ?_)))
        have hrt := w.2.mp (w.1.resolve_left z)
        have hw2 := hw.2.mp (hw.1.resolve_left z2)
        rw [u4]
        refine b_Wi (fun z3 => b_Wg (by omega) (b_Ws (skip (fun w' => by have := w'.1.2.2.2; omega)))) (fun z3 => b_We u5 (b_Wi (fun z4 => b_We u5 (b_Wl (b_Wg (by omega) (b_Ws ⟨⟨by dsimp only; omega, fun c j hc => ?_, Or.inr ⟨by dsimp only; omega, hb.1, ?_, rfl, ?_, fun r' b' hb' w' => ?_⟩⟩, by dsimp only; omega⟩)))) (fun z4 => b_Wg (by omega) (b_Ws (skip (fun w' => by have := w'.2; omega))))))
        · dsimp only
          unfold b_up
          rw [if_neg hc]; exact k2 c j hc
        · dsimp only
          rw [b_ups]; exact ⟨hrt, hw2.1, hw2.2, by omega⟩
        · dsimp only
          rw [b_ups]; omega
        · dsimp only at hb' ⊢
          rw [b_ups]
          by_cases qq : r' = r ∧ b' = b
          · obtain ⟨rfl, rfl⟩ := qq
            exact ⟨Int.le_refl _, fun _ => Or.inr ⟨rfl, Int.le_refl _⟩⟩
          · rcases k3 with ⟨k4, k5, k6⟩ | ⟨k4, k5, k6, k7, k8, k9⟩
            · exact absurd w' (k6 r' b' (by omega))
            · have := (k9 r' b' (by omega) w').1
              exact ⟨by omega, fun y => by omega⟩
    · dsimp only
      rcases h3 with ⟨h4, h5, h6⟩ | ⟨h4, h5, h6, h7, h8, h9⟩
      · refine Or.inl ⟨h4, h5, fun r' b hb w => ?_⟩
        have := w.2.1.1
        exact h6 r' b (by omega) w
      · refine Or.inr ⟨h4, h5, h6, h7, by omega, fun r' b hb w => ?_⟩
        have := w.2.1.1
        exact h9 r' b (by omega) w
