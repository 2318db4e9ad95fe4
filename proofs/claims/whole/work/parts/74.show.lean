theorem z_max (P : Int → Prop) (f : Int → Int) : ∀ n : Nat, ∃ mx : Int, 0 ≤ mx ∧ (∀ k : Int, 0 ≤ k → k < (n : Int) → P k → f k ≤ mx) ∧ (mx = 0 ∨ ∃ k : Int, (0 ≤ k ∧ k < (n : Int)) ∧ P k ∧ f k = mx) := by
  intro n
  induction n with
  | zero => exact ⟨0, by omega, fun k a b => by omega, Or.inl rfl⟩
  | succ n ih =>
    obtain ⟨mx, h0, h1, h2⟩ := ih
    by_cases q : P n ∧ mx < f n
    · refine ⟨f n, by omega, fun k a b hk => ?_, Or.inr ⟨n, by omega, q.1, rfl⟩⟩
      by_cases qk : k = (n : Int)
      · rw [qk]; exact Int.le_refl _
      · have := h1 k a (by omega) hk
        omega
    · refine ⟨mx, h0, fun k a b hk => ?_, ?_⟩
      · by_cases qk : k = (n : Int)
        · rw [qk] at hk ⊢
          by_cases q2 : mx < f n
          · exact absurd ⟨hk, q2⟩ q
          · omega
        · exact h1 k a (by omega) hk
      · rcases h2 with z | ⟨k, hk, z⟩
        · exact Or.inl z
        · exact Or.inr ⟨k, by omega, z⟩
theorem x_gd_n {M : bM} {d b w k : Int} (h : M 196 (3 * k + w) = -1) : ¬ x_gd M d b w k := fun z => z.2.2 (by unfold x_T; rw [if_pos h])
theorem x_cl_n {M : bM} {d w s : Int} (hT : T_ok M) (hs : 0 ≤ s) : x_cl M d w s ≠ -1 := by
  unfold x_cl
  split
  · omega
  · have := (x_lab_p (d := d) hT).2.2 s hs
    omega
theorem t_sh204 {M N : bM} {d b w best al wh : Int} (hB : O_b M d) (hN : O_n M N) (hw : 0 ≤ w ∧ w < 3) (h0 : ∃ j, x_gd M d b w j ∧ M 196 (3 * j + w) = wh) : b_wp (b_loop (fun t : Int × Int => F_X12_show_s204 b w best t.1 al 1 t.2 N) (wh, 0)) (fun r => (∃ j, x_gd M d b w j ∧ M 196 (3 * j + w) = r ∧ x_T M d w j = x_cl M d w wh) ∧ ∀ j, x_gd M d b w j → x_T M d w j = x_cl M d w wh → r ≤ M 196 (3 * j + w)) := by
  have s1 := hB.2.2.1.1
  have nn : ∀ j, x_gd M d b w j → M 196 (3 * j + w) ≠ -1 := fun j h z => x_gd_n z h
  refine b_loop_ind (I := fun s : Int × Int => (0 ≤ s.2 ∧ s.2 ≤ M 11 53) ∧ (∃ j, x_gd M d b w j ∧ M 196 (3 * j + w) = s.1 ∧ x_T M d w j = x_cl M d w wh) ∧ x_cl M d w s.1 = x_cl M d w wh ∧ ∀ j, j < s.2 → x_gd M d b w j → x_T M d w j = x_cl M d w wh → s.1 ≤ M 196 (3 * j + w)) (fun s => (M 11 53 - s.2).toNat) ?_ (wh, 0) ⟨by dsimp only; omega, ?_, rfl, fun j hj z => by have := z.1; dsimp only at hj; omega⟩
  · clear h0
    intro ⟨r, k⟩ ⟨h1, h2, h3, h4⟩
    dsimp only at h1 h2 h3 h4 ⊢
    obtain ⟨j0, g0, e0, t0⟩ := h2
    have g : ∀ c j, c ≠ 209 → c ≠ 210 → c ≠ 211 → c ≠ 212 → c ≠ 213 → c ≠ 216 → N c j = M c j := hN
    unfold F_X12_show_s204
    rw [g 11 53 (by decide) (by decide) (by decide) (by decide) (by decide) (by decide), g 196 (3 * k + w) (by decide) (by decide) (by decide) (by decide) (by decide) (by decide), g 214 k (by decide) (by decide) (by decide) (by decide) (by decide) (by decide), g 195 k (by decide) (by decide) (by decide) (by decide) (by decide) (by decide)]
    by_cases q : M 11 53 ≤ k
    · refine b_Wt q (b_Ws ⟨⟨j0, g0, e0, t0⟩, fun j hj z => h4 j ?_ hj z⟩)
      have := hj.1
      omega
    · have bk := hB.2.2.2.2.2 k h1.1 (by omega)
      have hsay := O_say hB hw (k := k) ⟨h1.1, by omega⟩
      have skip : ¬ (x_gd M d b w k ∧ x_T M d w k = x_cl M d w wh ∧ M 196 (3 * k + w) < r) → ((0 ≤ k + 1 ∧ k + 1 ≤ M 11 53) ∧ (∃ j, x_gd M d b w j ∧ M 196 (3 * j + w) = r ∧ x_T M d w j = x_cl M d w wh) ∧ x_cl M d w r = x_cl M d w wh ∧ ∀ j, j < k + 1 → x_gd M d b w j → x_T M d w j = x_cl M d w wh → r ≤ M 196 (3 * j + w)) ∧ (M 11 53 - (k + 1)).toNat < (M 11 53 - k).toNat := by
        intro z
        refine ⟨⟨by omega, ⟨j0, g0, e0, t0⟩, h3, fun j hj g t => ?_⟩, by omega⟩
        by_cases qj : j = k
        · subst qj
          by_cases qr : M 196 (3 * j + w) < r
          · exact absurd ⟨g, t, qr⟩ z
          · omega
        · exact h4 j (by omega) g t
      refine b_Wf q (b_Wf (by decide) (b_Wg (by omega) (b_Wl (b_Wg (by omega) (b_Wi (fun q1 => b_Wg (by omega) (b_Ws (skip (fun z => by have := bk.2.1.mpr z.1.2.1.1; omega)))) (fun q1 => b_Wg (by omega) (b_Wi (fun q2 => ?_) (fun q2 => b_Wg (by omega) (b_Ws (skip (fun z => q2 z.1.2.1.2)))))))))))
      refine b_Wi (fun q3 => b_Wg (by omega) (b_Ws (skip (fun z => x_gd_n q3 z.1)))) (fun q3 => ?_)
      have hsr := O_say hB hw (k := j0) g0.1
      have hr0 := nn j0 g0
      refine b_We (e_X12_classOf hB hN (fun z => ⟨by omega, hsay.2 z⟩)) (b_We (e_X12_classOf hB hN (fun z => ⟨by omega, by have := hsr.2 z; omega⟩)) ?_)
      rw [h3, ← x_T_cl q3]
      have gk : x_gd M d b w k := ⟨by omega, ⟨bk.2.1.mp (bk.1.resolve_left q1), q2⟩, by rw [x_T_cl q3]; exact x_cl_n (T_ok_of hB.1) (by omega)⟩
      refine b_Wi (fun q4 => b_Wi (fun q5 => b_Wg (by omega) (b_Ws (skip (fun z => by omega)))) (fun q5 => b_Wg (by omega) (b_Ws ⟨⟨by dsimp only; omega, ⟨k, gk, rfl, q4⟩, ?_, fun j hj g t => ?_⟩, by dsimp only; omega⟩))) (fun q4 => b_Wg (by omega) (b_Ws (skip (fun z => q4 z.2.1))))
      · dsimp only
        rw [← x_T_cl q3]; exact q4
      · dsimp only at hj ⊢
        by_cases qj : j = k
        · subst qj; exact Int.le_refl _
        · have := h4 j (by omega) g t
          omega
  · obtain ⟨j, g, e⟩ := h0
    exact ⟨j, g, e, by rw [x_T_cl (nn j g), e]⟩
/-- places of a BURNT one that show writes -/
theorem e_shw {b w best wh al q x : Int} {P : bM} (hb : 0 ≤ b ∧ b < 30) (hw : 0 ≤ w ∧ w < 3) : F_X12_show_b312 b w best wh al q (3 * b + w) x P = some (if wh ≠ -1 ∧ al = 0 then b_up (b_up (b_up P 209 (3 * b + w) x) 210 (3 * b + w) (if q = 0 then 0 else best)) 213 b (i_or (P 213 b) (i_shl 1 w)) else b_up (b_up P 209 (3 * b + w) x) 210 (3 * b + w) (if q = 0 then 0 else best)) := by
  unfold F_X12_show_b312 F_X12_show_b333
  rw [b_g_s (by omega), b_let_s, b_g_s (by omega)]
  by_cases q1 : q = 0
  · rw [if_pos q1, if_pos q1, b_g_s (by omega), b_let_s]
    by_cases q2 : wh = -1
    · rw [if_pos q2, if_neg (fun z => z.1 q2)]
    · rw [if_neg q2]
      by_cases q3 : al = 0
      · rw [if_pos q3, if_pos ⟨q2, q3⟩, b_g_s (by omega), b_let_s, b_upc (by decide), b_upc (by decide)]
      · rw [if_neg q3, if_neg (fun z => q3 z.2)]
  · rw [if_neg q1, if_neg q1, b_g_s (by omega), b_let_s]
    by_cases q2 : wh = -1
    · rw [if_pos q2, if_neg (fun z => z.1 q2)]
    · rw [if_neg q2]
      by_cases q3 : al = 0
      · rw [if_pos q3, if_pos ⟨q2, q3⟩, b_g_s (by omega), b_let_s, b_upc (by decide), b_upc (by decide)]
      · rw [if_neg q3, if_neg (fun z => q3 z.2)]
theorem t_show {M N : bM} {d b w : Int} (hB : O_b M d) (hN : O_n M N) (hb : 0 ≤ b ∧ b < 30) (hw : 0 ≤ w ∧ w < 3) : b_wp (F_X12_show b w d N) (fun P => (∀ c j, c ≠ 209 → c ≠ 210 → c ≠ 213 → c ≠ 216 → P c j = N c j) ∧ ∃ val pts q, x_fin M d b w val pts q ∧ P 209 = z_up (N 209) (3 * b + w) val ∧ P 210 = z_up (N 210) (3 * b + w) pts ∧ P 213 = z_up (N 213) b (x_qb (N 213 b) w q)) := by
  have s1 := hB.2.2.1.1
  have hr0 := x_rule_r (d := d) (i := 0) hB.2.2.2.2.1 (by omega)
  have nn : ∀ j, x_gd M d b w j → M 196 (3 * j + w) ≠ -1 := fun j h z => x_gd_n z h
  have ncl : ∀ j, x_gd M d b w j → x_T M d w j = x_cl M d w (M 196 (3 * j + w)) := fun j h => x_T_cl (nn j h)
  unfold F_X12_show
  refine b_Wb (b_wp_m (fun o y => ?_) (b_loop_ind (P := fun o : Int × Int × Int × bM => (0 ≤ o.1 ∧ o.1 ≤ 23760) ∧ (o.2.2.1 = 0 ∨ o.2.2.1 = 1) ∧ (∀ c j, c ≠ 216 → o.2.2.2 c j = N c j) ∧ (o.2.1 = -1 → ∀ j, x_gd M d b w j → ¬ (0 < x_sum M d b w (x_T M d w j) ∧ x_rule M d 0 ≤ x_sum M d b w (x_T M d w j))) ∧ (o.2.1 ≠ -1 → (∃ j, x_gd M d b w j ∧ M 196 (3 * j + w) = o.2.1 ∧ x_sum M d b w (x_T M d w j) = o.1) ∧ (0 < o.1 ∧ x_rule M d 0 ≤ o.1) ∧ (∀ j, x_gd M d b w j → x_sum M d b w (x_T M d w j) ≤ o.1) ∧ (o.2.2.1 = 1 → ∀ j, x_gd M d b w j → x_sum M d b w (x_T M d w j) = o.1 → x_T M d w j = x_cl M d w o.2.1) ∧ (o.2.2.1 = 0 → ∃ j, x_gd M d b w j ∧ x_sum M d b w (x_T M d w j) = o.1 ∧ x_T M d w j ≠ x_cl M d w o.2.1))) (I := fun s : Int × Int × Int × Int × bM => (0 ≤ s.2.2.2.1 ∧ s.2.2.2.1 ≤ M 11 53) ∧ (0 ≤ s.1 ∧ s.1 ≤ 23760) ∧ (s.2.2.1 = 0 ∨ s.2.2.1 = 1) ∧ (∀ c j, c ≠ 216 → s.2.2.2.2 c j = N c j) ∧ (s.2.1 = -1 → s.1 = 0 ∧ ∀ j, j < s.2.2.2.1 → x_gd M d b w j → ¬ (0 < x_sum M d b w (x_T M d w j) ∧ x_rule M d 0 ≤ x_sum M d b w (x_T M d w j))) ∧ (s.2.1 ≠ -1 → (∃ j, x_gd M d b w j ∧ M 196 (3 * j + w) = s.2.1 ∧ x_sum M d b w (x_T M d w j) = s.1) ∧ (0 < s.1 ∧ x_rule M d 0 ≤ s.1) ∧ (∀ j, j < s.2.2.2.1 → x_gd M d b w j → x_sum M d b w (x_T M d w j) ≤ s.1) ∧ (s.2.2.1 = 1 → ∀ j, j < s.2.2.2.1 → x_gd M d b w j → x_sum M d b w (x_T M d w j) = s.1 → x_T M d w j = x_cl M d w s.2.1) ∧ (s.2.2.1 = 0 → ∃ j, x_gd M d b w j ∧ x_sum M d b w (x_T M d w j) = s.1 ∧ x_T M d w j ≠ x_cl M d w s.2.1))) (fun s => (M 11 53 - s.2.2.2.1).toNat) ?_ (0, -1, 1, 0, N) ⟨by dsimp only; omega, by dsimp only; omega, Or.inr rfl, fun _ _ _ => rfl, fun _ => ⟨rfl, fun j hj z => by have := z.1; dsimp only at hj; omega⟩, fun z => absurd rfl z⟩))
  · obtain ⟨best, wh, al, P⟩ := o
    obtain ⟨y1, y2, y3, y4, y5⟩ := y
    dsimp only at y1 y2 y3 y4 y5 ⊢
    have hP : O_n M P := fun c j c1 c2 c3 c4 c5 c6 => by rw [y3 c j c6]; exact hN c j c1 c2 c3 c4 c5 c6
    have p209 : P 209 = N 209 := funext fun j => y3 209 j (by decide)
    have p210 : P 210 = N 210 := funext fun j => y3 210 j (by decide)
    have p213 : P 213 = N 213 := funext fun j => y3 213 j (by decide)
    have idz : z_up (N 213) b (N 213 b) = N 213 := by
      funext j
      unfold z_up
      split
      · rename_i h; rw [h]
      · rfl
    unfold F_X12_show_b183 F_X12_show_b198 F_X12_show_b199
    have fal : ∀ u0 q, (u0 = 0) → x_fin M d b w (-1) 0 q → (q = 1 ↔ (wh ≠ -1 ∧ al = 0)) → b_wp (b_bind (b_loop (fun t : Int × Int => F_X12_show_s204 b w best t.1 al u0 t.2 P) (wh, 0)) (fun t => F_X12_show_b292 b w best t al u0 P)) (fun P => (∀ c j, c ≠ 209 → c ≠ 210 → c ≠ 213 → c ≠ 216 → P c j = N c j) ∧ ∃ val pts q, x_fin M d b w val pts q ∧ P 209 = z_up (N 209) (3 * b + w) val ∧ P 210 = z_up (N 210) (3 * b + w) pts ∧ P 213 = z_up (N 213) b (x_qb (N 213 b) w q)) := by
      intro u0 q hu hf hq
      subst hu
      have g53 : P 11 53 = M 11 53 := hP 11 53 (by decide) (by decide) (by decide) (by decide) (by decide) (by decide)
      have go : b_wp (F_X12_show_b292 b w best wh al 0 P) (fun P => (∀ c j, c ≠ 209 → c ≠ 210 → c ≠ 213 → c ≠ 216 → P c j = N c j) ∧ ∃ val pts q, x_fin M d b w val pts q ∧ P 209 = z_up (N 209) (3 * b + w) val ∧ P 210 = z_up (N 210) (3 * b + w) pts ∧ P 213 = z_up (N 213) b (x_qb (N 213 b) w q)) := by
        unfold F_X12_show_b292
        refine b_Wg (by omega) (b_Wt rfl (b_wp_of (e_shw hb hw) ?_))
        by_cases qq : wh ≠ -1 ∧ al = 0
        · rw [if_pos qq, if_pos rfl]
          refine ⟨fun c j c1 c2 c3 c4 => by rw [b_upc c3, b_upc c2, b_upc c1]; exact y3 c j c4, -1, 0, q, hf, ?_, ?_, ?_⟩
          · rw [b_upF (by decide), b_upF (by decide), b_up_z, p209]
          · rw [b_upF (by decide), b_up_z, b_upF (by decide), p210]
          · rw [b_up_z, b_upF (by decide), b_upF (by decide), p213]
            unfold x_qb
            rw [if_pos (hq.mpr qq)]
        · rw [if_neg qq, if_pos rfl]
          refine ⟨fun c j c1 c2 c3 c4 => by rw [b_upc c2, b_upc c1]; exact y3 c j c4, -1, 0, q, hf, ?_, ?_, ?_⟩
          · rw [b_upF (by decide), b_up_z, p209]
          · rw [b_up_z, b_upF (by decide), p210]
          · rw [b_upF (by decide), b_upF (by decide), p213]
            unfold x_qb
            rw [if_neg (fun z => qq (hq.mp z)), idz]
      refine b_Wb (b_Wloop ?_)
      dsimp only
      unfold F_X12_show_s204
      exact b_Wi (fun z => b_Ws go) (fun z => b_Wt rfl (b_Ws go))
    refine b_Wi (fun z => ?_) (fun z => ?_)
    · refine fal 0 0 rfl ?_ ⟨fun z => absurd z (by decide), fun y => absurd z y.1⟩
      obtain ⟨mx, m0, m1, m2⟩ := z_max (x_gd M d b w) (fun k => x_sum M d b w (x_T M d w k)) (M 5 0).toNat
      refine ⟨mx, m0, fun k g => m1 k g.1.1 (by have := g.1; omega) g, ?_, Or.inl ⟨fun y => ?_, rfl, rfl, rfl⟩⟩
      · rcases m2 with m2 | ⟨k, hk, g, e⟩
        · exact Or.inl m2
        · exact Or.inr ⟨k, g, e⟩
      · rcases m2 with m2 | ⟨k, hk, g, e⟩
        · omega
        · refine y4 z k g ?_
          rw [e]; exact y
    · have y6 := y5 z
      obtain ⟨⟨j0, g0, e0, f0⟩, y7, y8, y9, y10⟩ := y6
      refine b_Wi (fun z2 => ?_) (fun z2 => ?_)
      · obtain ⟨j1, g1, e1, f1⟩ := y10 z2
        refine fal 0 1 rfl ⟨best, y1.1, y8, Or.inr ⟨j0, g0, f0⟩, Or.inr (Or.inl ⟨y7, ⟨j1, j0, g1, g0, e1, f0, ?_⟩, rfl, rfl, rfl⟩)⟩ ⟨fun _ => ⟨z, z2⟩, fun _ => rfl⟩
        rw [ncl j0 g0, e0]; exact f1
      · refine b_Wb (b_wp_m (fun r yr => ?_) (t_sh204 (best := best) (al := al) hB hP hw ⟨j0, g0, e0⟩))
        obtain ⟨⟨j1, g1, e1, t1⟩, y11⟩ := yr
        unfold F_X12_show_b292
        have al1 : al = 1 := y2.resolve_left z2
        have rn : r ≠ -1 := by rw [← e1]; exact nn j1 g1
        refine b_Wg (by omega) (b_Wf (by decide) (b_wp_of (e_shw hb hw) ?_))
        rw [if_neg (fun z => z2 z.2), if_neg (by decide)]
        refine ⟨fun c j c1 c2 c3 c4 => by rw [b_upc c2, b_upc c1]; exact y3 c j c4, r, best, 0, ⟨best, y1.1, y8, Or.inr ⟨j0, g0, f0⟩, Or.inr (Or.inr ⟨y7, x_cl M d w wh, y9 al1, ⟨j1, g1, ?_, t1, e1.symm⟩, y11, rfl, rfl⟩)⟩, ?_, ?_, ?_⟩
        · rw [← e0, ← ncl j0 g0]; exact f0
        · rw [b_upF (by decide), b_up_z, p209]
        · rw [b_up_z, b_upF (by decide), p210]
        · rw [b_upF (by decide), b_upF (by decide), p213]
          unfold x_qb
          rw [if_neg (by decide), idz]
  · intro ⟨best, wh, al, k, P⟩ ⟨h1, h2, h3, h4, h5, h6⟩
    dsimp only at h1 h2 h3 h4 h5 h6 ⊢
    have hP : O_n M P := fun c j c1 c2 c3 c4 c5 c6 => by rw [h4 c j c6]; exact hN c j c1 c2 c3 c4 c5 c6
    have g : ∀ c j, c ≠ 209 → c ≠ 210 → c ≠ 211 → c ≠ 212 → c ≠ 213 → c ≠ 216 → P c j = M c j := hP
    unfold F_X12_show_s12
    rw [g 11 53 (by decide) (by decide) (by decide) (by decide) (by decide) (by decide), g 196 (3 * k + w) (by decide) (by decide) (by decide) (by decide) (by decide) (by decide), g 214 k (by decide) (by decide) (by decide) (by decide) (by decide) (by decide), g 195 k (by decide) (by decide) (by decide) (by decide) (by decide) (by decide)]
    by_cases q : M 11 53 ≤ k
    · have all : ∀ j, x_gd M d b w j → j < k := fun j z => by have := z.1; omega
      exact b_Wt q (b_Ws ⟨h2, h3, h4, fun z j gj => (h5 z).2 j (all j gj) gj, fun z => ⟨(h6 z).1, (h6 z).2.1, fun j gj => (h6 z).2.2.1 j (all j gj) gj, fun y j gj => (h6 z).2.2.2.1 y j (all j gj) gj, (h6 z).2.2.2.2⟩⟩)
    · have bk := hB.2.2.2.2.2 k h1.1 (by omega)
      have hsay := O_say hB hw (k := k) ⟨h1.1, by omega⟩
      have skip : ∀ P2 : bM, (∀ c j, c ≠ 216 → P2 c j = N c j) → (x_gd M d b w k → ¬ (0 < x_sum M d b w (x_T M d w k) ∧ x_rule M d 0 ≤ x_sum M d b w (x_T M d w k)) ∨ (wh ≠ -1 ∧ x_sum M d b w (x_T M d w k) < best)) → ((0 ≤ k + 1 ∧ k + 1 ≤ M 11 53) ∧ (0 ≤ best ∧ best ≤ 23760) ∧ (al = 0 ∨ al = 1) ∧ (∀ c j, c ≠ 216 → P2 c j = N c j) ∧ (wh = -1 → best = 0 ∧ ∀ j, j < k + 1 → x_gd M d b w j → ¬ (0 < x_sum M d b w (x_T M d w j) ∧ x_rule M d 0 ≤ x_sum M d b w (x_T M d w j))) ∧ (wh ≠ -1 → (∃ j, x_gd M d b w j ∧ M 196 (3 * j + w) = wh ∧ x_sum M d b w (x_T M d w j) = best) ∧ (0 < best ∧ x_rule M d 0 ≤ best) ∧ (∀ j, j < k + 1 → x_gd M d b w j → x_sum M d b w (x_T M d w j) ≤ best) ∧ (al = 1 → ∀ j, j < k + 1 → x_gd M d b w j → x_sum M d b w (x_T M d w j) = best → x_T M d w j = x_cl M d w wh) ∧ (al = 0 → ∃ j, x_gd M d b w j ∧ x_sum M d b w (x_T M d w j) = best ∧ x_T M d w j ≠ x_cl M d w wh))) ∧ (M 11 53 - (k + 1)).toNat < (M 11 53 - k).toNat := by
        intro P2 hP2 z
        refine ⟨⟨by omega, h2, h3, hP2, fun y => ⟨(h5 y).1, fun j hj gj => ?_⟩, fun y => ⟨(h6 y).1, (h6 y).2.1, fun j hj gj => ?_, fun y2 j hj gj => ?_, (h6 y).2.2.2.2⟩⟩, by omega⟩
        · by_cases qj : j = k
          · subst qj
            rcases z gj with z | z
            · exact z
            · exact absurd y z.1
          · exact (h5 y).2 j (by omega) gj
        · by_cases qj : j = k
          · subst qj
            have := (h6 y).2.1
            rcases z gj with z | z
            · by_cases q0 : 0 < x_sum M d b w (x_T M d w j)
              · have : ¬ x_rule M d 0 ≤ x_sum M d b w (x_T M d w j) := fun e => z ⟨q0, e⟩
                omega
              · omega
            · omega
          · exact (h6 y).2.2.1 j (by omega) gj
        · by_cases qj : j = k
          · subst qj
            intro e
            have := (h6 y).2.1
            rcases z gj with z | z
            · exact absurd (by rw [e]; exact this) z
            · omega
          · exact (h6 y).2.2.2.1 y2 j (by omega) gj
      refine b_Wf q (b_Wg (by omega) (b_Wl (b_Wg (by omega) (b_Wi (fun q1 => b_Wg (by omega) (b_Ws (skip P h4 (fun z => by have := bk.2.1.mpr z.2.1.1; omega)))) (fun q1 => b_Wg (by omega) (b_Wi (fun q2 => ?_) (fun q2 => b_Wg (by omega) (b_Ws (skip P h4 (fun z => absurd z.2.1.2 q2))))))))))
      refine b_Wi (fun q3 => b_Wg (by omega) (b_Ws (skip P h4 (fun z => absurd z (x_gd_n q3))))) (fun q3 => ?_)
      have gk : x_gd M d b w k := ⟨by omega, ⟨bk.2.1.mp (bk.1.resolve_left q1), q2⟩, by rw [x_T_cl q3]; exact x_cl_n (T_ok_of hB.1) (by omega)⟩
      refine b_We (e_X12_classOf hB hP (fun z => ⟨by omega, hsay.2 z⟩)) ?_
      rw [← x_T_cl q3]
      have hgo : (wh ≠ -1 → x_T M d w k ≠ x_cl M d w wh) → b_wp (F_X12_show_b110 b w d best wh al k (M 196 (3 * k + w)) (x_T M d w k) P) (Sum.elim (fun s : Int × Int × Int × Int × bM => ((0 ≤ s.2.2.2.1 ∧ s.2.2.2.1 ≤ M 11 53) ∧ (0 ≤ s.1 ∧ s.1 ≤ 23760) ∧ (s.2.2.1 = 0 ∨ s.2.2.1 = 1) ∧ (∀ c j, c ≠ 216 → s.2.2.2.2 c j = N c j) ∧ (s.2.1 = -1 → s.1 = 0 ∧ ∀ j, j < s.2.2.2.1 → x_gd M d b w j → ¬ (0 < x_sum M d b w (x_T M d w j) ∧ x_rule M d 0 ≤ x_sum M d b w (x_T M d w j))) ∧ (s.2.1 ≠ -1 → (∃ j, x_gd M d b w j ∧ M 196 (3 * j + w) = s.2.1 ∧ x_sum M d b w (x_T M d w j) = s.1) ∧ (0 < s.1 ∧ x_rule M d 0 ≤ s.1) ∧ (∀ j, j < s.2.2.2.1 → x_gd M d b w j → x_sum M d b w (x_T M d w j) ≤ s.1) ∧ (s.2.2.1 = 1 → ∀ j, j < s.2.2.2.1 → x_gd M d b w j → x_sum M d b w (x_T M d w j) = s.1 → x_T M d w j = x_cl M d w s.2.1) ∧ (s.2.2.1 = 0 → ∃ j, x_gd M d b w j ∧ x_sum M d b w (x_T M d w j) = s.1 ∧ x_T M d w j ≠ x_cl M d w s.2.1))) ∧ (M 11 53 - s.2.2.2.1).toNat < (M 11 53 - k).toNat) (fun o : Int × Int × Int × bM => (0 ≤ o.1 ∧ o.1 ≤ 23760) ∧ (o.2.2.1 = 0 ∨ o.2.2.1 = 1) ∧ (∀ c j, c ≠ 216 → o.2.2.2 c j = N c j) ∧ (o.2.1 = -1 → ∀ j, x_gd M d b w j → ¬ (0 < x_sum M d b w (x_T M d w j) ∧ x_rule M d 0 ≤ x_sum M d b w (x_T M d w j))) ∧ (o.2.1 ≠ -1 → (∃ j, x_gd M d b w j ∧ M 196 (3 * j + w) = o.2.1 ∧ x_sum M d b w (x_T M d w j) = o.1) ∧ (0 < o.1 ∧ x_rule M d 0 ≤ o.1) ∧ (∀ j, x_gd M d b w j → x_sum M d b w (x_T M d w j) ≤ o.1) ∧ (o.2.2.1 = 1 → ∀ j, x_gd M d b w j → x_sum M d b w (x_T M d w j) = o.1 → x_T M d w j = x_cl M d w o.2.1) ∧ (o.2.2.1 = 0 → ∃ j, x_gd M d b w j ∧ x_sum M d b w (x_T M d w j) = o.1 ∧ x_T M d w j ≠ x_cl M d w o.2.1)))) := by
        intro hne
        unfold F_X12_show_b110
        have rP : ∀ P2 : bM, O_n M P2 → R_rules P2 ∧ x_rule P2 d = x_rule M d := by
          intro P2 h2
          have fr : b_fr [(209, none), (210, none), (211, none), (212, none), (213, none), (216, none)] M P2 := fun c i hi => h2 c i (fun q => by subst q; revert hi; simp [b_ins]) (fun q => by subst q; revert hi; simp [b_ins]) (fun q => by subst q; revert hi; simp [b_ins]) (fun q => by subst q; revert hi; simp [b_ins]) (fun q => by subst q; revert hi; simp [b_ins]) (fun q => by subst q; revert hi; simp [b_ins])
          exact ⟨R_rules_k (b_kp1 fr (by decide +kernel)) hB.2.2.2.2.1, sp_rule (b_kp1 fr (by decide +kernel)) d⟩
        have r1 := rP P hP
        refine b_We (e_X12_ruleOn r1.1 (by omega)) ?_
        rw [r1.2]
        refine b_Wb (b_wp_m (fun o yo => ?_) (t_sf (b := b) hB hP hw gk.2.2))
        obtain ⟨x, P2⟩ := o
        obtain ⟨o1, o2, o3⟩ := yo
        dsimp only at o1 o2 o3
        have h4' : ∀ c j, c ≠ 216 → P2 c j = N c j := fun c j hc => by rw [o3 c j hc]; exact h4 c j hc
        have hP2 : O_n M P2 := fun c j c1 c2 c3 c4 c5 c6 => by rw [h4' c j c6]; exact hN c j c1 c2 c3 c4 c5 c6
        have r2 := rP P2 hP2
        refine b_Wtwo ?_
        dsimp only
        refine b_We (e_X12_ruleOn r2.1 (by omega)) ?_
        rw [r2.2]
        refine b_Wi (fun z => b_Wg (by omega) (b_Ws (skip P2 h4' (fun _ => Or.inl (by rw [← o1]; omega))))) (fun z => b_Wi (fun z2 => b_Wg (by omega) (b_Ws (skip P2 h4' (fun _ => Or.inl (by rw [← o1]; omega))))) (fun z2 => b_Wi (fun z3 => b_Wi (fun z4 => ?_) (fun z4 => ?_)) (fun z3 => ?_)))
        · have hwh : wh ≠ -1 := fun e => by have := (h5 e).1; omega
          have h7 := h6 hwh
          refine b_Wg (by omega) (b_Ws ⟨⟨by dsimp only; omega, h2, Or.inl rfl, h4', fun y => absurd y hwh, fun _ => ⟨h7.1, h7.2.1, fun j hj gj => ?_, fun y => absurd y (show ¬ (0 : Int) = 1 by decide), fun _ => ⟨k, gk, by dsimp only; rw [← o1]; exact z4, hne hwh⟩⟩⟩, by dsimp only; omega⟩)
          dsimp only at hj ⊢
          by_cases qj : j = k
          · subst qj; rw [← o1]; omega
          · exact h7.2.2.1 j (by omega) gj
        · have old : ∀ j, j < k → x_gd M d b w j → x_sum M d b w (x_T M d w j) < x := by
            intro j hj gj
            by_cases qw : wh = -1
            · have := (h5 qw).2 j hj gj
              omega
            · have := (h6 qw).2.2.1 j hj gj
              omega
          refine b_Wg (by omega) (b_Ws ⟨⟨by dsimp only; omega, by dsimp only; omega, Or.inr rfl, h4', fun y => absurd y q3, fun _ => ⟨⟨k, gk, rfl, o1.symm⟩, by dsimp only; omega, fun j hj gj => ?_, fun _ j hj gj e => ?_, fun y => absurd y (show ¬ (1 : Int) = 0 by decide)⟩⟩, by dsimp only; omega⟩)
          · dsimp only at hj ⊢
            by_cases qj : j = k
            · subst qj; rw [← o1]; omega
            · have := old j (by omega) gj
              omega
          · dsimp only at hj e ⊢
            by_cases qj : j = k
            · subst qj; exact x_T_cl q3
            · have := old j (by omega) gj
              omega
        · have hwh : wh ≠ -1 := fun e => by have := (h5 e).1; omega
          exact b_Wg (by omega) (b_Ws (skip P2 h4' (fun _ => Or.inr ⟨hwh, by rw [← o1]; omega⟩)))
      refine b_Wi (fun q4 => hgo (fun z => absurd q4 z)) (fun q4 => ?_)
      have h7 := h6 q4
      obtain ⟨⟨j0, g0, e0, f0⟩, y7, y8, y9, y10⟩ := h7
      have hsr := O_say hB hw (k := j0) g0.1
      refine b_We (e_X12_classOf hB hP (fun z => ⟨by omega, by have := hsr.2 z; omega⟩)) (b_Wi (fun q5 => ?_) (fun q5 => hgo (fun _ z => q5 z.symm)))
      have fk : x_sum M d b w (x_T M d w k) = best := by rw [← q5, ← e0, ← ncl j0 g0]; exact f0
      have ext8 : ∀ j, j < k + 1 → x_gd M d b w j → x_sum M d b w (x_T M d w j) ≤ best := by
        intro j hj gj
        by_cases qj : j = k
        · subst qj; omega
        · exact y8 j (by omega) gj
      refine b_Wi (fun q6 => b_Wg (by omega) (b_Ws ⟨⟨by dsimp only; omega, h2, h3, h4, fun z => absurd z q4, fun _ => ⟨⟨j0, g0, e0, f0⟩, y7, ext8, fun z j hj gj => ?_, y10⟩⟩, by dsimp only; omega⟩)) (fun q6 => b_Wg (by omega) (b_Ws ⟨⟨by dsimp only; omega, h2, h3, h4, fun z => absurd z q3, fun _ => ⟨⟨k, gk, rfl, fk⟩, y7, ext8, fun z j hj gj => ?_, fun z => ?_⟩⟩, by dsimp only; omega⟩))
      · dsimp only at z hj ⊢
        by_cases qj : j = k
        · subst qj; exact fun _ => q5.symm
        · exact y9 z j (by omega) gj
      · dsimp only at z hj ⊢
        rw [← x_T_cl q3, ← q5]
        by_cases qj : j = k
        · subst qj; exact fun _ => q5.symm
        · exact y9 z j (by omega) gj
      · dsimp only at z ⊢
        rw [← x_T_cl q3, ← q5]
        exact y10 z
