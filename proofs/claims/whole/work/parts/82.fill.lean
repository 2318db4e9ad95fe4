def H_n (N Q : bM) : Prop := ∀ c j, c ≠ 137 → c ≠ 138 → c ≠ 140 → Q c j = N c j
theorem H_nf {N Q : bM} (h : H_n N Q) (c : Nat) (h1 : c ≠ 137) (h2 : c ≠ 138) (h3 : c ≠ 140) : Q c = N c := funext fun j => h c j h1 h2 h3
/-- an entry of the table of latest begins -/
def Le (M : bM) (d l p x : Int) (t : Nat) (b v : Int) : Prop := (-1 ≤ v ∧ v ≤ 9999) ∧ ∀ day, 0 ≤ day → (day ≤ v ↔ g_P M d l p x true t b day)
def Lt (M : bM) (d l p x : Int) (N Q : bM) (T : Int) : Prop := ∀ (t : Nat) (c : Int), (t : Int) < T → 0 ≤ c → c < N 7 6 → Le M d l p x t (N 130 c) (Q 137 (30 * (t : Int) + c))
theorem Ga_T {M N : bM} {d l p c : Int} (hA : Ga M d l p N) (c0 : 0 ≤ c) (c1 : c < N 7 6) : N 135 c = x_lab M d (g_T M (N 130 c)) := by
  obtain ⟨⟨k1, k2⟩, k3, k4, k5, k6, k7⟩ := hA.1.2.1 c c0 c1
  rw [k7]
  unfold g_lb
  rw [if_neg k1.2.2.2]
theorem t_latestOf {M N Q : bM} {d l p x c : Int} {t : Nat} (hG : G_all M d) (hA : Ga M d l p N) (hQ : H_n N Q) (hL : Lt M d l p x N Q ((t : Int) + 1)) (ht : (t : Int) + 1 < 8) (c0 : 0 ≤ c) (c1 : c < N 7 6) : b_wp (F_X2_latestOf ((t : Int) + 1) c Q) (fun v => (-1 ≤ v ∧ v ≤ 9999) ∧ ∀ day, 0 ≤ day → (day ≤ v ↔ ∃ n, g_nx M d (N 135 c) n ∧ day ≤ g_F M n ∧ g_P M d l p x true t n (max day (g_B M n)))) := by
  have b1 := hG.1.2.2.2.2.2.2.2.2.2
  have g1 := hA.1.1
  unfold F_X2_latestOf F_X2_latestOf_b79
  refine b_Wb (b_loop_ind (I := fun s : Int × Int => (0 ≤ s.2 ∧ s.2 ≤ N 7 6) ∧ (-1 ≤ s.1 ∧ s.1 ≤ 9999) ∧ ∀ day, 0 ≤ day → (day ≤ s.1 ↔ ∃ e, (0 ≤ e ∧ e < s.2) ∧ g_nx M d (N 135 c) (N 130 e) ∧ day ≤ g_F M (N 130 e) ∧ g_P M d l p x true t (N 130 e) (max day (g_B M (N 130 e))))) (fun s => (N 7 6 - s.2).toNat) ?_ (-1, 0) ⟨by dsimp only; omega, by dsimp only; omega, fun day h => ⟨fun z => by dsimp only at z; omega, fun ⟨e, he, _⟩ => by dsimp only at he; omega⟩⟩)
  intro ⟨v, e⟩ ⟨h1, h2, h3⟩
  dsimp only at h1 h2 h3 ⊢
  unfold F_X2_latestOf_s5
  rw [H_nf hQ 7 (by decide) (by decide) (by decide), H_nf hQ 136 (by decide) (by decide) (by decide), H_nf hQ 131 (by decide) (by decide) (by decide), H_nf hQ 132 (by decide) (by decide) (by decide)]
  by_cases q : N 7 6 ≤ e
  · refine b_Wt q (b_Ws (b_Ws ⟨h2, fun day hd => (h3 day hd).trans ⟨fun ⟨e', he, z⟩ => ⟨N 130 e', z⟩, fun ⟨n, z1, z2, z3⟩ => ?_⟩⟩))
    have hlk := (g_P_lk z3).1
    obtain ⟨e', he, rfl⟩ := hA.1.2.2.2 n hlk.1.2 hlk
    exact ⟨e', by omega, z1, z2, z3⟩
  · obtain ⟨⟨k1, k2⟩, k3, k4, k5, k6, k7⟩ := hA.1.2.1 e h1.1 (by omega)
    have hr := G_r hG k1.1
    have hgap := hA.2.2.2.1 c e c0 c1 h1.1 (by omega)
    have hle := hL t e (by omega) h1.1 (by omega)
    rw [show (((t : Int) + 1 - 1) * 30 + e) = 30 * (t : Int) + e by omega, gq_u (N := N) (c := c) (e := e) (by omega)]
    have skip : (∀ day, 0 ≤ day → ¬ (g_nx M d (N 135 c) (N 130 e) ∧ day ≤ g_F M (N 130 e) ∧ g_P M d l p x true t (N 130 e) (max day (g_B M (N 130 e))))) → ((0 ≤ e + 1 ∧ e + 1 ≤ N 7 6) ∧ (-1 ≤ v ∧ v ≤ 9999) ∧ ∀ day, 0 ≤ day → (day ≤ v ↔ ∃ e', (0 ≤ e' ∧ e' < e + 1) ∧ g_nx M d (N 135 c) (N 130 e') ∧ day ≤ g_F M (N 130 e') ∧ g_P M d l p x true t (N 130 e') (max day (g_B M (N 130 e'))))) ∧ (N 7 6 - (e + 1)).toNat < (N 7 6 - e).toNat := by
      intro z
      refine ⟨⟨by omega, h2, fun day hd => (h3 day hd).trans ⟨fun ⟨e', he, y⟩ => ⟨e', by omega, y⟩, fun ⟨e', he, y⟩ => ?_⟩⟩, by omega⟩
      by_cases qe : e' = e
      · subst qe; exact absurd y (z day hd)
      · exact ⟨e', by omega, y⟩
    refine b_Wf q (b_Wg (by omega) (b_Wl (b_Wg (by omega) (b_Wi (fun q1 => b_Wg (by omega) (b_Ws (skip (fun day hd y => by have := hgap.2.mpr y.1; omega)))) (fun q1 => b_Wg (by omega) (b_Wi (fun q2 => b_Wg (by omega) (b_Ws (skip (fun day hd y => ?_)))) (fun q2 => b_Wg (by omega) (b_Wl (b_Wg (by omega) (b_Ws ⟨⟨by dsimp only; omega, ?_, fun day hd => ?_⟩, by dsimp only; omega⟩))))))))))
    · have := (hle.2 (max day (g_B M (N 130 e))) (by omega)).mpr y.2.2
      omega
    · dsimp only
      have := hle.1
      omega
    · dsimp only
      have hl2 := hle.2 (max day (g_B M (N 130 e))) (by omega)
      constructor
      · intro z
        by_cases qv : day ≤ v
        · obtain ⟨e', he, y⟩ := (h3 day hd).mp qv
          exact ⟨e', by omega, y⟩
        · exact ⟨e, by omega, hgap.2.mp (by have := hgap.1; omega), by omega, hl2.mp (by omega)⟩
      · intro ⟨e', he, y⟩
        by_cases qe : e' = e
        · subst qe
          have := hl2.mpr y.2.2
          have := y.2.1
          omega
        · have := (h3 day hd).mpr ⟨e', by omega, y⟩
          omega
theorem t_fill {M N Q : bM} {d l p x : Int} (hG : G_all M d) (hA : Ga M d l p N) (hQ : H_n N Q) : b_wp (F_X2_fill x Q) (fun R => (∀ c j, c ≠ 137 → R c j = Q c j) ∧ Lt M d l p x N R (min (N 7 6) 8)) := by
  have b1 := hG.1.2.2.2.2.2.2.2.2.2
  have g1 := hA.1.1
  unfold F_X2_fill F_X2_fill_b89
  refine b_Wb (b_loop_ind (I := fun s : Int × bM => (0 ≤ s.1 ∧ s.1 ≤ min (N 7 6) 8) ∧ (∀ c j, c ≠ 137 → s.2 c j = Q c j) ∧ Lt M d l p x N s.2 s.1) (fun s => (min (N 7 6) 8 - s.1).toNat) ?_ (0, Q) ⟨by dsimp only; omega, fun _ _ _ => rfl, fun t c ht => by dsimp only at ht; omega⟩)
  intro ⟨t, R⟩ ⟨h1, h2, h3⟩
  dsimp only at h1 h2 h3 ⊢
  unfold F_X2_fill_s2 F_X2_mostLinks
  have r76 : R 7 6 = N 7 6 := by rw [h2 7 6 (by decide)]; exact hQ 7 6 (by decide) (by decide) (by decide)
  rw [r76]
  refine b_Wb (b_Ws ?_)
  by_cases q : min (N 7 6) 8 ≤ t
  · refine b_Wt q (b_Ws (b_Ws ⟨h2, ?_⟩))
    rw [show t = min (N 7 6) 8 by omega] at h3
    exact h3
  · refine b_Wf q (b_Wb (b_wp_m (fun S y => ?_) (b_loop_ind (P := fun S : bM => (∀ c j, c ≠ 137 → S c j = Q c j) ∧ Lt M d l p x N S (t + 1)) (I := fun s : Int × bM => (0 ≤ s.1 ∧ s.1 ≤ N 7 6) ∧ (∀ c j, c ≠ 137 → s.2 c j = Q c j) ∧ Lt M d l p x N s.2 t ∧ ∀ c, 0 ≤ c → c < s.1 → Le M d l p x t.toNat (N 130 c) (s.2 137 (30 * t + c))) (fun s => (N 7 6 - s.1).toNat) ?_ (0, R) ⟨by dsimp only; omega, h2, h3, fun c c0 c1 => by dsimp only at c1; omega⟩)))
    · unfold F_X2_fill_b83
      exact b_Wg (by omega) (b_Ws ⟨⟨by dsimp only; omega, y.1, y.2⟩, by dsimp only; omega⟩)
    · intro ⟨c, S⟩ ⟨k1, k2, k3, k4⟩
      dsimp only at k1 k2 k3 k4 ⊢
      have hS : H_n N S := fun a j a1 a2 a3 => by rw [k2 a j a1]; exact hQ a j a1 a2 a3
      have s76 : S 7 6 = N 7 6 := hS 7 6 (by decide) (by decide) (by decide)
      unfold F_X2_fill_s12
      rw [s76]
      by_cases qc : N 7 6 ≤ c
      · refine b_Wt qc (b_Ws ⟨k2, fun t' c' ht' c0 c1 => ?_⟩)
        by_cases qt : (t' : Int) = t
        · have := k4 c' c0 (by omega)
          rw [← qt] at this
          rw [show ((t' : Int)).toNat = t' by omega] at this
          exact this
        · exact k3 t' c' (by omega) c0 c1
      · obtain ⟨⟨a1, a2⟩, a3, a4, a5, a6, a7⟩ := hA.1.2.1 c k1.1 (by omega)
        have put : ∀ v, Le M d l p x t.toNat (N 130 c) (if N 133 c < x then -1 else v) → b_wp (F_X2_fill_b48 x t c v S) (Sum.elim (fun s : Int × bM => ((0 ≤ s.1 ∧ s.1 ≤ N 7 6) ∧ (∀ c j, c ≠ 137 → s.2 c j = Q c j) ∧ Lt M d l p x N s.2 t ∧ ∀ c, 0 ≤ c → c < s.1 → Le M d l p x t.toNat (N 130 c) (s.2 137 (30 * t + c))) ∧ (N 7 6 - s.1).toNat < (N 7 6 - c).toNat) (fun S : bM => (∀ c j, c ≠ 137 → S c j = Q c j) ∧ Lt M d l p x N S (t + 1))) := by
          intro v hv
          unfold F_X2_fill_b48 F_X2_fill_b76
          rw [H_nf hS 133 (by decide) (by decide) (by decide)]
          have fin : ∀ w, Le M d l p x t.toNat (N 130 c) w → ((0 ≤ c + 1 ∧ c + 1 ≤ N 7 6) ∧ (∀ c' j, c' ≠ 137 → b_up S 137 (t * 30 + c) w c' j = Q c' j) ∧ Lt M d l p x N (b_up S 137 (t * 30 + c) w) t ∧ ∀ c', 0 ≤ c' → c' < c + 1 → Le M d l p x t.toNat (N 130 c') (b_up S 137 (t * 30 + c) w 137 (30 * t + c'))) ∧ (N 7 6 - (c + 1)).toNat < (N 7 6 - c).toNat := by
            intro w hw
            refine ⟨⟨by omega, fun c' j hc => by rw [b_upc hc]; exact k2 c' j hc, fun t' c' ht' c0 c1 => ?_, fun c' c0 c1 => ?_⟩, by omega⟩
            · rw [b_upi (by omega)]
              exact k3 t' c' ht' c0 c1
            · by_cases qq : c' = c
              · subst qq
                rw [show 30 * t + c' = t * 30 + c' by omega, b_ups]
                exact hw
              · rw [b_upi (by omega)]
                exact k4 c' c0 (by omega)
          refine b_Wg (by omega) (b_Wi (fun z => b_Wg (by omega) (b_Wl (b_Wg (by omega) (b_Ws (fin _ ?_))))) (fun z => b_Wg (by omega) (b_Wl (b_Wg (by omega) (b_Ws (fin _ ?_))))))
          · rw [if_pos z] at hv; exact hv
          · rw [if_neg z] at hv; exact hv
        have small : N 133 c < x → Le M d l p x t.toNat (N 130 c) (-1) := by
          intro z
          refine ⟨by omega, fun day hd => ⟨fun y => by omega, fun y => ?_⟩⟩
          have := (g_P_lk y).2
          omega
        refine b_Wf qc (b_Wi (fun z => ?_) (fun z => ?_))
        · have t0 : t = 0 := by omega
          subst t0
          have he := hA.2.2.1 c k1.1 (by omega)
          rw [Ga_T hA k1.1 (by omega)] at he
          unfold F_X2_isEnder
          rw [H_nf hS 7 (by decide) (by decide) (by decide), i_bt_ushr (by omega)]
          refine b_Wb ?_
          have base : ∀ day, 0 ≤ day → (g_P M d l p x true 0 (N 130 c) day ↔ (x ≤ N 133 c ∧ i_bt (N 7 13) c.toNat = true ∧ day ≤ 9999)) := by
            intro day hd
            rw [he, a5]
            exact ⟨fun y => ⟨y.2.1, y.2.2.1, y.2.2.2⟩, fun y => ⟨a1, y.1, y.2.1, y.2.2⟩⟩
          by_cases qb : i_bt (N 7 13) c.toNat = true
          · rw [if_pos qb]
            refine b_Wf (by decide) (b_Ws (b_Wf (by decide) (put 9999 ?_)))
            by_cases qx : N 133 c < x
            · rw [if_pos qx]; exact small qx
            · rw [if_neg qx]
              refine ⟨by omega, fun day hd => ?_⟩
              show day ≤ 9999 ↔ g_P M d l p x true 0 (N 130 c) day
              rw [base day hd]
              exact ⟨fun y => ⟨by omega, qb, y⟩, fun y => y.2.2⟩
          · rw [if_neg qb]
            refine b_Wt rfl (b_Ws (b_Wt rfl (put (-1) ?_)))
            rw [show (if N 133 c < x then (-1 : Int) else -1) = -1 by split <;> rfl]
            refine ⟨by omega, fun day hd => ?_⟩
            show day ≤ -1 ↔ g_P M d l p x true 0 (N 130 c) day
            rw [base day hd]
            exact ⟨fun y => by omega, fun y => absurd y.2.1 qb⟩
        · obtain ⟨u, hu⟩ := Int.eq_ofNat_of_zero_le (show 0 ≤ t - 1 by omega)
          have tu : t = (u : Int) + 1 := by omega
          subst tu
          have tl := t_latestOf (t := u) (c := c) hG hA hS k3 (by omega) k1.1 (by omega)
          generalize hT : (u : Int) + 1 = T at tl put small
          refine b_Wb (b_wp_m (fun v hv => ?_) tl)
          refine put v ?_
          subst hT
          rw [show ((u : Int) + 1).toNat = u + 1 by omega]
          by_cases qx : N 133 c < x
          · rw [if_pos qx]
            have := small qx
            rw [show ((u : Int) + 1).toNat = u + 1 by omega] at this
            exact this
          · rw [if_neg qx]
            refine ⟨hv.1, fun day hd => (hv.2 day hd).trans ?_⟩
            rw [Ga_T hA k1.1 (by omega)]
            exact ⟨fun ⟨n, y1, y2, y3⟩ => ⟨a1, by omega, n, Or.inl rfl, y1, y2, y3⟩, fun ⟨_, _, n, _, y1, y2, y3⟩ => ⟨n, y1, y2, y3⟩⟩
/-- which LINK comes next -/
theorem t_leastNext {N Q : bM} {v day : Int} {t : Nat} (hQ : H_n N Q) (hn : 0 ≤ N 7 6 ∧ N 7 6 ≤ 30) (hv : 0 ≤ v ∧ v < 90) (ht : (t : Int) < 8) : b_wp (F_X2_leastNext v day ((t : Int) + 1) Q) (fun r => (r = -1 ∧ ∀ e, 0 ≤ e → e < N 7 6 → ¬ (gq N v e = 0 ∧ day ≤ N 132 e ∧ max day (N 131 e) ≤ Q 137 (30 * (t : Int) + e))) ∨ ((0 ≤ r ∧ r < N 7 6) ∧ (gq N v r = 0 ∧ day ≤ N 132 r ∧ max day (N 131 r) ≤ Q 137 (30 * (t : Int) + r)) ∧ ∀ e, 0 ≤ e → e < r → ¬ (gq N v e = 0 ∧ day ≤ N 132 e ∧ max day (N 131 e) ≤ Q 137 (30 * (t : Int) + e)))) := by
  unfold F_X2_leastNext F_X2_leastNext_b84
  refine b_Wb (b_loop_ind (I := fun s : Int => (0 ≤ s ∧ s ≤ N 7 6) ∧ ∀ e, 0 ≤ e → e < s → ¬ (gq N v e = 0 ∧ day ≤ N 132 e ∧ max day (N 131 e) ≤ Q 137 (30 * (t : Int) + e))) (fun s => (N 7 6 - s).toNat) ?_ 0 ⟨by omega, fun e e0 e1 => by omega⟩)
  intro e ⟨h1, h2⟩
  unfold F_X2_leastNext_s3
  rw [H_nf hQ 7 (by decide) (by decide) (by decide), H_nf hQ 136 (by decide) (by decide) (by decide), H_nf hQ 131 (by decide) (by decide) (by decide), H_nf hQ 132 (by decide) (by decide) (by decide)]
  by_cases q : N 7 6 ≤ e
  · exact b_Wt q (b_Ws (Or.inl ⟨rfl, fun e' e0 e1 => h2 e' e0 (by omega)⟩))
  · rw [gq_u (N := N) (c := v) (e := e) (by omega), show ((t : Int) + 1 - 1) * 30 + e = 30 * (t : Int) + e by omega]
    have skip : ¬ (gq N v e = 0 ∧ day ≤ N 132 e ∧ max day (N 131 e) ≤ Q 137 (30 * (t : Int) + e)) → ((0 ≤ e + 1 ∧ e + 1 ≤ N 7 6) ∧ ∀ e', 0 ≤ e' → e' < e + 1 → ¬ (gq N v e' = 0 ∧ day ≤ N 132 e' ∧ max day (N 131 e') ≤ Q 137 (30 * (t : Int) + e'))) ∧ (N 7 6 - (e + 1)).toNat < (N 7 6 - e).toNat := by
      intro z
      refine ⟨⟨by omega, fun e' e0 e1 => ?_⟩, by omega⟩
      by_cases qe : e' = e
      · subst qe; exact z
      · exact h2 e' e0 (by omega)
    have g01 := gq_01 (N := N) (c := v) (e := e)
    refine b_Wf q (b_Wf (by omega) (b_Wg (by omega) (b_Wl (b_Wg (by omega) (b_Wi (fun q1 => b_Wg (by omega) (b_Ws (skip (fun y => by have := y.1; omega)))) (fun q1 => b_Wg (by omega) (b_Wi (fun q2 => b_Wg (by omega) (b_Ws (skip (fun y => by have := y.2.1; omega)))) (fun q2 => b_Wi (fun q3 => b_Wg (by omega) (b_Ws (skip (fun y => by have := y.2.2; omega)))) (fun q3 => b_Wg (by omega) (b_Wi (fun q4 => b_Wg (by omega) (b_Ws (skip (fun y => by have := y.2.2; omega)))) (fun q4 => b_Ws (Or.inr ⟨by omega, ⟨by omega, by omega, by omega⟩, h2⟩))))))))))))
/-- a CHAIN that begins with a ROOT -/
def g_R (M : bM) (d l p x : Int) (s : Bool) (t : Nat) (r b : Int) : Prop := g_st M d l r b ∧ g_P M d l p x s t b (max (M 218 r) (g_B M b))
theorem t_firstRoot {M N Q : bM} {d l p x : Int} {t : Nat} (hG : G_all M d) (hA : Ga M d l p N) (hN : b_fr W_gat M N) (hQ : H_n N Q) (hL : Lt M d l p x N Q (min (N 7 6) 8)) (ht : (t : Int) < min (N 7 6) 8) : b_wp (F_X2_firstRoot ((t : Int) + 1) Q) (fun r => (r = -1 ∧ ¬ g_K M d l p x true t) ∨ ((0 ≤ r ∧ r < M 3 0) ∧ (∃ b, g_R M d l p x true t r b) ∧ ∀ r' b, r' < r → ¬ g_R M d l p x true t r' b)) := by
  have b1 := hG.1.2.2.2.2.2.2.2.2.2
  have g1 := hA.1.1
  have l1 := hG.1.2.2.1.1
  have l4 : M 218 = M 93 := hG.1.2.2.1.2.1.2.2.2.2.2
  unfold F_X2_firstRoot F_X2_firstRoot_b51
  refine b_Wb (b_loop_ind (I := fun s : Int => (0 ≤ s ∧ s ≤ M 3 0) ∧ ∀ r' b, r' < s → ¬ g_R M d l p x true t r' b) (fun s => (M 3 0 - s).toNat) ?_ 0 ⟨by omega, fun r' b hr' w => by have := w.1.1.1; omega⟩)
  intro r ⟨h1, h2⟩
  unfold F_X2_firstRoot_s2
  have q30 : Q 3 0 = M 3 0 := by rw [hQ 3 0 (by decide) (by decide) (by decide)]; exact hN 3 0 (by decide)
  have q93 : Q 93 r = M 218 r := by rw [l4, hQ 93 r (by decide) (by decide) (by decide)]; exact hN 93 r rfl
  rw [q30, q93]
  by_cases q : M 3 0 ≤ r
  · refine b_Wt q (b_Ws (Or.inl ⟨rfl, fun ⟨r', b, w1, w2⟩ => h2 r' b ?_ ⟨w1, w2⟩⟩))
    have := w1.1.1
    omega
  · have hrt := hA.2.2.2.2.1 r h1.1 (by omega)
    have skip : (∀ b, ¬ g_R M d l p x true t r b) → ((0 ≤ r + 1 ∧ r + 1 ≤ M 3 0) ∧ ∀ r' b, r' < r + 1 → ¬ g_R M d l p x true t r' b) ∧ (M 3 0 - (r + 1)).toNat < (M 3 0 - r).toNat := by
      intro z
      refine ⟨⟨by omega, fun r' b hr' => ?_⟩, by omega⟩
      by_cases qr : r' = r
      · subst qr; exact z b
      · exact h2 r' b (by omega)
    unfold F_X2_isRoot
    rw [H_nf hQ 7 (by decide) (by decide) (by decide)]
    refine b_Wf q (b_Wb ?_)
    have go : b_wp (if (0 : Int) = 0 then (b_g (b_i32 (r + 1)) (some (Sum.inl (r + 1)))) else (none : Option (Int ⊕ (Unit ⊕ Int)))) (fun _ => True) := by
      exact b_Wt rfl (b_Wg (by omega) (b_Ws trivial))
    clear go
    refine b_Wi (fun z => b_Ws (b_Wt rfl (b_Wg (by omega) (b_Ws (skip (fun b w => ?_)))))) (fun z => b_Ws (b_Wf (by decide) ?_))
    · rw [j_tstu (by omega)] at z
      exact z (hrt.mpr w.1.1)
    · rw [j_tstu (by omega)] at z
      have hr : g_rt M l r := hrt.mp (by
        by_cases y : j_bt (N 7 5) r.toNat = true
        · exact y
        · exact absurd y z)
      have hgap := hA.2.2.2.2.2 r
      have conv : ∀ e, 0 ≤ e → e < N 7 6 → ((gq N (30 + r) e = 0 ∧ M 218 r ≤ N 132 e ∧ max (M 218 r) (N 131 e) ≤ Q 137 (30 * (t : Int) + e)) ↔ g_R M d l p x true t r (N 130 e)) := by
        intro e e0 e1
        obtain ⟨⟨a1, a2⟩, a3, a4, a5, a6, a7⟩ := hA.1.2.1 e e0 e1
        have hrr := G_r hG a1.1
        have hle := (hL t e ht e0 e1).2 (max (M 218 r) (g_B M (N 130 e))) (by omega)
        rw [(hgap e hr e0 e1).2, a3, a4, hle]
        exact ⟨fun y => ⟨⟨hr, y.1, y.2.1⟩, y.2.2⟩, fun y => ⟨y.1.2.1, y.1.2.2, y.2⟩⟩
      refine b_Wg (by omega) (b_Wb (b_wp_m (fun x y => ?_) (t_leastNext (v := 30 + r) (day := M 218 r) (t := t) hQ (by omega) (by omega) (by omega))))
      rcases y with ⟨rfl, y⟩ | ⟨y1, y2, y3⟩
      · refine b_Wt rfl (b_Wg (by omega) (b_Ws (skip (fun b w => ?_))))
        have hlk := (g_P_lk w.2).1
        obtain ⟨e, he, rfl⟩ := hA.1.2.2.2 b hlk.1.2 hlk
        exact y e he.1 he.2 ((conv e he.1 he.2).mpr w)
      · exact b_Wf (by omega) (b_Ws (Or.inr ⟨by omega, ⟨_, (conv x y1.1 y1.2).mp y2⟩, h2⟩))
theorem t_shortest {M N Q : bM} {d l p x : Int} (hG : G_all M d) (hA : Ga M d l p N) (hN : b_fr W_gat M N) (hQ : H_n N Q) (hL : Lt M d l p x N Q (min (N 7 6) 8)) : b_wp (F_X2_shortest Q) (fun v => (v = 0 ∧ ∀ t : Nat, (t : Int) < min (N 7 6) 8 → ¬ g_K M d l p x true t) ∨ ∃ t : Nat, (t : Int) < min (N 7 6) 8 ∧ v = (t : Int) + 1 ∧ g_K M d l p x true t ∧ ∀ u : Nat, u < t → ¬ g_K M d l p x true u) := by
  have g1 := hA.1.1
  unfold F_X2_shortest F_X2_shortest_b27
  refine b_Wb (b_loop_ind (I := fun s : Int => (1 ≤ s ∧ s ≤ min (N 7 6) 8 + 1) ∧ ∀ t : Nat, (t : Int) + 1 < s → ¬ g_K M d l p x true t) (fun s => (min (N 7 6) 8 + 1 - s).toNat) ?_ 1 ⟨by omega, fun t ht => by omega⟩)
  intro v ⟨h1, h2⟩
  unfold F_X2_shortest_s2 F_X2_mostLinks
  rw [H_nf hQ 7 (by decide) (by decide) (by decide)]
  refine b_Wb (b_Ws ?_)
  by_cases q : min (N 7 6) 8 < v
  · exact b_Wt q (b_Ws (Or.inl ⟨rfl, fun t ht => h2 t (by omega)⟩))
  · obtain ⟨t, ht⟩ := Int.eq_ofNat_of_zero_le (show 0 ≤ v - 1 by omega)
    have hv : v = (t : Int) + 1 := by omega
    have tf := t_firstRoot (t := t) hG hA hN hQ hL (by omega)
    rw [← hv] at tf
    refine b_Wf q (b_Wb (b_wp_m (fun r y => ?_) tf))
    rcases y with ⟨y0, y⟩ | ⟨y1, ⟨b, y2⟩, y3⟩
    · refine b_Wt y0 ?_
      refine b_Wg (by omega) (b_Ws ?_)
      refine ⟨⟨by omega, fun t' ht' => ?_⟩, by omega⟩
      by_cases qt : t' = t
      · subst qt; exact y
      · exact h2 t' (by omega)
    · exact b_Wf (by omega) (b_Ws (Or.inr ⟨t, by omega, hv, ⟨r, b, y2.1, y2.2⟩, fun u hu => h2 u (by omega)⟩))
