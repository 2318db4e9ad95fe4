theorem t_layLoop {M N Q : bM} {d l p x r : Int} {t : Nat} (hG : G_all M d) (hA : Ga M d l p N) (hN : b_fr W_gat M N) (hQ : H_n N Q) (hs : Sh M d l p x t) (hL : Lt M d l p x N Q (min (N 7 6) 8)) (hr : g_rt M l r) (hb : ∃ b, g_R M d l p x false t r b) : b_wp (b_loop (fun s : Int × Int × Int × bM => F_X2_layRow_s41 ((t : Int) + 1) s.1 s.2.1 s.2.2.1 s.2.2.2) (30 + r, M 218 r, 0, Q)) (fun R => H_n N R ∧ (∀ j, j < 4 → R 140 j = Q 140 j) ∧ Rw M d l p x t r (fun i => R 140 (4 + (i : Int)))) := by
  have tn := g_sh_n hA hs
  have t8 := hs.1
  have b1 := hG.1.2.2.2.2.2.2.2.2.2
  have g1 := hA.1.1
  have l1 := hG.1.2.2.1.1
  have hrl := hr.1
  have inc : ∀ c e, 0 ≤ c → c < N 7 6 → 0 ≤ e → e < N 7 6 → N 130 c < N 130 e → c < e := by
    intro c e c0 c1 e0 e1 h
    rcases Int.lt_trichotomy c e with q | q | q
    · exact q
    · subst q; omega
    · have := hA.1.2.2.1 e c e0 q c1
      omega
  refine b_loop_ind (I := fun s : Int × Int × Int × bM => H_n N s.2.2.2 ∧ (∀ c j, c ≠ 140 → s.2.2.2 c j = Q c j) ∧ (∀ j, j < 4 → s.2.2.2 140 j = Q 140 j) ∧ ((s.2.2.1 = 0 ∧ s.1 = 30 + r ∧ s.2.1 = M 218 r) ∨ ∃ k : Nat, k ≤ t ∧ s.2.2.1 = (k : Int) + 1 ∧ (0 ≤ s.1 ∧ s.1 < N 7 6) ∧ ∃ D : Nat → Int, Rp M d l p x t r (fun i => s.2.2.2 140 (4 + (i : Int))) D k ∧ N 130 s.1 = s.2.2.2 140 (4 + (k : Int)) ∧ s.2.1 = D k)) (fun s => ((t : Int) + 1 - s.2.2.1).toNat) ?_ (30 + r, M 218 r, 0, Q) ⟨hQ, fun _ _ _ => rfl, fun _ _ => rfl, Or.inl ⟨rfl, rfl, rfl⟩⟩
  intro ⟨v, day, i, R⟩ ⟨h1, h2, h3, h4⟩
  dsimp only at h1 h2 h3 h4 ⊢
  unfold F_X2_layRow_s41
  have r137 : R 137 = Q 137 := funext fun j => h2 137 j (by decide)
  rcases h4 with ⟨hi0, hv0, hd0⟩ | ⟨k, k1, hi0, k2, D, k3, k4, hd0⟩
  · refine b_Wf (by omega) (b_Wf (by omega) (b_Wg (by omega) ?_))
    rw [show (t : Int) + 1 - i = (t : Int) + 1 by omega, hv0, hd0]
    have conv : ∀ e, 0 ≤ e → e < N 7 6 → ((gq N (30 + r) e = 0 ∧ M 218 r ≤ N 132 e ∧ max (M 218 r) (N 131 e) ≤ R 137 (30 * (t : Int) + e)) ↔ g_R M d l p x false t r (N 130 e)) := by
      intro e e0 e1
      obtain ⟨⟨a1, a2⟩, a3, a4, a5, a6, a7⟩ := hA.1.2.1 e e0 e1
      have hrr := G_r hG a1.1
      have hle := (hL t e tn e0 e1).2 (max (M 218 r) (g_B M (N 130 e))) (by omega)
      rw [← eqv0 hs, (hA.2.2.2.2.2 r e hr e0 e1).2, a3, a4, r137, hle]
      exact ⟨fun y => ⟨⟨hr, y.1, y.2.1⟩, y.2.2⟩, fun y => ⟨y.1.2.1, y.1.2.2, y.2⟩⟩
    refine b_Wb (b_wp_m (fun e y => ?_) (t_leastNext (v := 30 + r) (day := M 218 r) (t := t) h1 (by omega) (by omega) (by omega)))
    rcases y with ⟨_, y⟩ | ⟨y1, y2, y3⟩
    · exfalso
      obtain ⟨b, hb⟩ := hb
      have hlk := (g_P_lk hb.2).1
      obtain ⟨e', he, rfl⟩ := hA.1.2.2.2 b hlk.1.2 hlk
      exact y e' he.1 he.2 ((conv e' he.1 he.2).mpr hb)
    · have r130 : R 130 e = N 130 e := h1 130 e (by decide) (by decide) (by decide)
      have r131 : R 131 e = N 131 e := h1 131 e (by decide) (by decide) (by decide)
      obtain ⟨⟨a1, a2⟩, a3, a4, a5, a6, a7⟩ := hA.1.2.1 e y1.1 y1.2
      refine b_Wf (by omega) (b_Wg (by omega) (b_Wl (b_Wg (by omega) ?_)))
      rw [b_upc (by decide), r130, r131]
      refine b_Wl (b_Wg (by omega) (b_Ws ⟨⟨fun a j b1 b2 b3 => ?_, fun c j hc => ?_, fun j hj => ?_, Or.inr ⟨0, by omega, by dsimp only; omega, by dsimp only; omega, fun _ => max (M 218 r) (g_B M (N 130 e)), ⟨⟨?_, fun b hb2 => ?_, ?_⟩, fun i hi => by omega⟩, ?_, ?_⟩⟩, by dsimp only; omega⟩))
      · dsimp only
        rw [b_upc b3]; exact h1 a j b1 b2 b3
      · dsimp only
        rw [b_upc hc]; exact h2 c j hc
      · dsimp only
        rw [b_upi (by omega)]; exact h3 j hj
      · dsimp only
        rw [show (4 : Int) + ((0 : Nat) : Int) = 4 + i by omega, b_ups]
        exact (conv e y1.1 y1.2).mp y2
      · dsimp only at hb2
        rw [show (4 : Int) + ((0 : Nat) : Int) = 4 + i by omega, b_ups] at hb2
        intro w
        have hlk := (g_P_lk w.2).1
        obtain ⟨e', he, rfl⟩ := hA.1.2.2.2 b hlk.1.2 hlk
        exact y3 e' he.1 (inc e' e he.1 he.2 y1.1 y1.2 hb2) ((conv e' he.1 he.2).mpr w)
      · dsimp only
        rw [show (4 : Int) + ((0 : Nat) : Int) = 4 + i by omega, b_ups]
      · dsimp only
        rw [show (4 : Int) + ((0 : Nat) : Int) = 4 + i by omega, b_ups]
      · dsimp only
        rw [a3]
  · obtain ⟨q1, q2⟩ := Rp_q k k1 k3
    rw [← k4] at q1 q2
    have hlk := g_P_lk q2
    by_cases q : (t : Int) + 1 ≤ i
    · refine b_Wt q (b_Ws ⟨h1, h3, D, ?_⟩)
      have kt : k = t := by omega
      rw [← kt] at k3 ⊢
      exact k3
    · refine b_Wf q (b_Wf (by omega) (b_Wg (by omega) ?_))
      rw [show (t : Int) + 1 - i = ((t - k - 1 : Nat) : Int) + 1 by omega, hd0]
      have conv : ∀ e, 0 ≤ e → e < N 7 6 → ((gq N v e = 0 ∧ D k ≤ N 132 e ∧ max (D k) (N 131 e) ≤ R 137 (30 * ((t - k - 1 : Nat) : Int) + e)) ↔ Nx M d l p x (t - k - 1) (N 130 v) (D k) (N 130 e)) := by
        intro e e0 e1
        obtain ⟨⟨a1, a2⟩, a3, a4, a5, a6, a7⟩ := hA.1.2.1 e e0 e1
        have hrr := G_r hG a1.1
        have hle := (hL (t - k - 1) e (by omega) e0 e1).2 (max (D k) (g_B M (N 130 e))) (by omega)
        rw [← eqv1 hs (by omega) q1 hlk, (hA.2.2.2.1 v e k2.1 k2.2 e0 e1).2, a3, a4, r137, hle, Ga_T hA k2.1 k2.2]
      refine b_Wb (b_wp_m (fun e y => ?_) (t_leastNext (v := v) (day := D k) (t := t - k - 1) h1 (by omega) (by omega) (by omega)))
      rcases y with ⟨_, y⟩ | ⟨y1, y2, y3⟩
      · exfalso
        have q3 := q2
        rw [show t - k = t - k - 1 + 1 by omega] at q3
        obtain ⟨_, _, b, w1, w2, w3, w4⟩ := q3
        have hlk2 := (g_P_lk w4).1
        obtain ⟨e', he, rfl⟩ := hA.1.2.2.2 b hlk2.1.2 hlk2
        exact y e' he.1 he.2 ((conv e' he.1 he.2).mpr ⟨w1.resolve_left (by decide), w2, w3, w4⟩)
      · have r130 : R 130 e = N 130 e := h1 130 e (by decide) (by decide) (by decide)
        have r131 : R 131 e = N 131 e := h1 131 e (by decide) (by decide) (by decide)
        obtain ⟨⟨a1, a2⟩, a3, a4, a5, a6, a7⟩ := hA.1.2.1 e y1.1 y1.2
        refine b_Wf (by omega) (b_Wg (by omega) (b_Wl (b_Wg (by omega) ?_)))
        rw [b_upc (by decide), r130, r131]
        have old : ∀ j : Nat, j ≤ k → b_up R 140 (4 + i) (N 130 e) 140 (4 + (j : Int)) = R 140 (4 + (j : Int)) := fun j hj => b_upi (by omega)
        have new : b_up R 140 (4 + i) (N 130 e) 140 (4 + ((k + 1 : Nat) : Int)) = N 130 e := by rw [show (4 : Int) + ((k + 1 : Nat) : Int) = 4 + i by omega, b_ups]
        refine b_Wl (b_Wg (by omega) (b_Ws ⟨⟨fun a j b1 b2 b3 => ?_, fun c j hc => ?_, fun j hj => ?_, Or.inr ⟨k + 1, by omega, by dsimp only; omega, by dsimp only; omega, fun j => if j ≤ k then D j else max (D k) (g_B M (N 130 e)), ⟨⟨?_, fun b hb2 => ?_, ?_⟩, fun j hj => ?_⟩, ?_, ?_⟩⟩, by dsimp only; omega⟩))
        · dsimp only
          rw [b_upc b3]; exact h1 a j b1 b2 b3
        · dsimp only
          rw [b_upc hc]; exact h2 c j hc
        · dsimp only
          rw [b_upi (by omega)]; exact h3 j hj
        · dsimp only
          rw [old 0 (by omega)]; exact k3.1.1
        · dsimp only at hb2
          rw [old 0 (by omega)] at hb2
          exact k3.1.2.1 b hb2
        · dsimp only
          rw [if_pos (by omega), old 0 (by omega)]; exact k3.1.2.2
        · dsimp only
          by_cases qi : j = k
          · subst qi
            rw [old j (by omega), new, if_pos (by omega), if_neg (by omega), ← k4]
            refine ⟨(conv e y1.1 y1.2).mp y2, fun b hb2 w => ?_, rfl⟩
            have hlk2 := (g_P_lk w.2.2.2).1
            obtain ⟨e', he, rfl⟩ := hA.1.2.2.2 b hlk2.1.2 hlk2
            exact y3 e' he.1 (inc e' e he.1 he.2 y1.1 y1.2 hb2) ((conv e' he.1 he.2).mpr w)
          · rw [old j (by omega), old (j + 1) (by omega), if_pos (by omega), if_pos (by omega)]
            exact k3.2 j (by omega)
        · dsimp only
          rw [new]
        · dsimp only
          rw [if_neg (by omega), a3]
/-- the BEST CHAIN, as both tell it -/
def Sr (M : bM) (d l p ans : Int) (F : Int → Int) : Prop := ∃ r0 w, Br M d l p r0 ∧ Gw M d l p (if r0 = -1 then 0 else 1000) w ∧ ((w ≠ -1 ∧ ans = 0 ∧ F 0 = 0 ∧ F 1 = w ∧ ∃ t : Nat, Sh M d l p w t ∧ F 2 = (t : Int) + 1 ∧ ((0 ≤ F 3 ∧ F 3 < M 3 0) ∧ (∃ b, g_R M d l p w false t (F 3) b) ∧ ∀ r b, r < F 3 → ¬ g_R M d l p w false t r b) ∧ Rw M d l p w t (F 3) (fun i => F (4 + (i : Int)))) ∨ (w = -1 ∧ r0 ≠ -1 ∧ ans = 0 ∧ F 0 = 0 ∧ F 1 = 999 ∧ F 2 = 0 ∧ F 3 = r0) ∨ (w = -1 ∧ r0 = -1 ∧ ans = -1 ∧ ∀ r b, ¬ Vp M d l p r b) ∨ (w = -1 ∧ r0 = -1 ∧ ans = 1 ∧ ∃ best r1 b1, Gp M d l p best r1 b1 ∧ F 0 = 1 ∧ F 1 = best ∧ F 2 = 1 ∧ F 3 = r1 ∧ F 4 = b1))
theorem t_search {M : bM} {d l p : Int} (hG : G_all M d) (hRr : R_root M) (hl : 0 ≤ l ∧ l < M 3 0) (hp : 0 ≤ p ∧ p < M 2 0) : b_wp (F_X2_search l p M) (fun o => b_fr W_X2_search M o.2 ∧ Sr M d l p o.1 (o.2 140)) := by
  refine b_wl_wp (w_X2_search b_fr_refl) ?_
  have l1 := hG.1.2.2.1.1
  have l4 : M 218 = M 93 := hG.1.2.2.1.2.1.2.2.2.2.2
  unfold F_X2_search
  refine b_Wb (b_wp_m (fun N y => ?_) (t_gather hG hRr hl hp))
  obtain ⟨hN, hA⟩ := y
  have b1 := hG.1.2.2.2.2.2.2.2.2.2
  have g1 := hA.1.1
  refine b_Wb (b_wp_m (fun r0 yr => ?_) (t_bare (Q := N) hG hRr hA hN hp))
  obtain ⟨hBr, hr0⟩ := yr
  have go : ∀ x, x = (if r0 = -1 then 0 else 1000) → b_wp (F_X2_search_b24 r0 x N) (fun o => Sr M d l p o.1 (o.2 140)) := by
    intro x hx
    unfold F_X2_search_b24
    refine b_Wb (b_wp_m (fun o y => ?_) (t_gw (x := x) hG hA hN (fun _ _ _ _ _ => rfl)))
    obtain ⟨w, Q⟩ := o
    obtain ⟨y1, y2, y3⟩ := y
    dsimp only at y1 y2 y3
    rw [hx] at y3
    refine b_Wtwo ?_
    dsimp only
    refine b_Wi (fun q => b_Wi (fun q2 => ?_) (fun q2 => ?_)) (fun q => ?_)
    · refine b_Wb (b_wp_m (fun o z => ?_) (t_gapLink hG hA hN y1))
      obtain ⟨a, R⟩ := o
      obtain ⟨z1, z2⟩ := z
      dsimp only at z1 z2
      refine b_Wtwo ?_
      dsimp only
      rcases z2 with ⟨rfl, z2⟩ | ⟨rfl, z2⟩
      · exact b_Wt rfl (b_Ws ⟨r0, w, hBr, y3, Or.inr (Or.inr (Or.inl ⟨q, q2, rfl, z2⟩))⟩)
      · exact b_Wf (by decide) (b_Ws ⟨r0, w, hBr, y3, Or.inr (Or.inr (Or.inr ⟨q, q2, rfl, z2⟩))⟩)
    · unfold F_X2_tell
      refine b_Wb (b_Wl (b_Wl (b_Wl (b_Wl (b_Ws (b_Ws ⟨r0, w, hBr, y3, Or.inr (Or.inl ⟨q, q2, rfl, ?_, ?_, ?_, ?_⟩)⟩))))))
      · simp [b_up]
      · simp [b_up]
      · simp [b_up]
      · simp [b_up]
    · refine b_Wb (b_wp_m (fun R z => ?_) (t_fill (x := w) hG hA y1))
      obtain ⟨z1, z2⟩ := z
      have hR : H_n N R := fun a j a1 a2 a3 => by rw [z1 a j a1]; exact y1 a j a1 a2 a3
      refine b_Wb (b_wp_m (fun v yv => ?_) (t_sh hG hA hN hR z2))
      have hch : Ch M d l p w := by
        rcases y3 with y3 | y3
        · exact absurd y3.1 q
        · exact y3.1
      rcases yv with ⟨_, yv⟩ | ⟨t, hv, hs⟩
      · exact absurd hch yv
      · have tn := g_sh_n hA hs
        have tf := t_firstRoot (t := t) hG hA hN hR z2 tn
        rw [← hv] at tf
        refine b_Wb (b_wp_m (fun r yr => ?_) tf)
        rcases yr with ⟨_, yr⟩ | ⟨yr1, ⟨b, yr2⟩, yr3⟩
        · exact absurd (g_K_i hs.2.1) yr
        · unfold F_X2_tell
          refine b_Wb (b_Wl (b_Wl (b_Wl (b_Wl (b_Ws ?_)))))
          generalize hS : b_up (b_up (b_up (b_up R 140 0 0) 140 1 w) 140 2 v) 140 3 r = S
          have gS : S 140 0 = 0 ∧ S 140 1 = w ∧ S 140 2 = v ∧ S 140 3 = r := by subst hS; simp [b_up]
          have fS : ∀ a j, a ≠ 140 → S a j = R a j := fun a j ha => by subst hS; rw [b_upc ha, b_upc ha, b_upc ha, b_upc ha]
          clear hS
          have hS : H_n N S := fun a j a1 a2 a3 => by rw [fS a j a3]; exact hR a j a1 a2 a3
          have hLS : Lt M d l p w N S (min (N 7 6) 8) := fun t' c ht' c0 c1 => by rw [fS 137 _ (by decide)]; exact z2 t' c ht' c0 c1
          have s30 : S 3 0 = M 3 0 := by rw [hS 3 0 (by decide) (by decide) (by decide)]; exact hN 3 0 (by decide)
          have s93 : S 93 r = M 218 r := by rw [l4, hS 93 r (by decide) (by decide) (by decide)]; exact hN 93 r rfl
          unfold F_X2_layRow F_X2_layRow_b36 F_X2_layRow_b103
          rw [gS.2.2.2, s93]
          refine b_Wb ?_
          refine b_Wg (by omega) (b_Wl (b_We e_X5_has (b_Wf (by rw [b_01_0, s30]; omega) (b_Wg (by omega) (b_Wb ?_)))))
          have tl := t_layLoop (r := r) hG hA hN hS hs hLS yr2.1.1 ⟨b, (eqv0 hs).mp yr2⟩
          rw [← hv] at tl
          refine b_wp_m (fun U yu => ?_) tl
          obtain ⟨u1, u2, u3⟩ := yu
          refine b_Ws (b_Ws ⟨r0, w, hBr, y3, Or.inl ⟨q, rfl, ?_, ?_, t, hs, ?_, ?_, ?_⟩⟩)
          · dsimp only; rw [u2 0 (by omega)]; exact gS.1
          · dsimp only; rw [u2 1 (by omega)]; exact gS.2.1
          · dsimp only; rw [u2 2 (by omega), gS.2.2.1]; exact hv
          · dsimp only
            rw [u2 3 (by omega), gS.2.2.2]
            exact ⟨yr1, ⟨b, (eqv0 hs).mp yr2⟩, fun r' b' hr' w' => yr3 r' b' hr' ((eqv0 hs).mpr w')⟩
          · dsimp only
            rw [u2 3 (by omega), gS.2.2.2]
            exact u3
  refine b_Wi (fun q => go 0 ?_) (fun q => go 1000 ?_)
  · rw [if_pos q]
  · rw [if_neg q]
