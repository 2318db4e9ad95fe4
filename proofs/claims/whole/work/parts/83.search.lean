def Ch (M : bM) (d l p x : Int) : Prop := ∃ t : Nat, t < 8 ∧ g_K M d l p x false t
theorem Ch_x {M : bM} {d l p x y : Int} (h : y ≤ x) (hc : Ch M d l p x) : Ch M d l p y := by
  obtain ⟨t, t1, t2⟩ := hc
  exact ⟨t, t1, g_K_x h t2⟩
theorem Ch_w {M : bM} {d l p x : Int} (hc : Ch M d l p x) : ∃ c, g_lk M l c ∧ x ≤ g_p M c ∧ Ch M d l p (g_p M c) := by
  obtain ⟨t, t1, t2⟩ := hc
  obtain ⟨c, c1, c2, c3⟩ := g_K_w t2
  exact ⟨c, c1, c2, t, t1, c3⟩
/-- shortest, as told by both -/
def Sh (M : bM) (d l p x : Int) (t : Nat) : Prop := t < 8 ∧ g_K M d l p x false t ∧ ∀ u, u < t → ¬ g_K M d l p x false u
noncomputable def g_ix (N : bM) (b : Int) : Nat := Classical.epsilon (fun c : Nat => (c : Int) < N 7 6 ∧ N 130 c = b)
theorem g_ix_s {M N : bM} {d l p b : Int} (hA : Ga M d l p N) (hb : g_lk M l b) : ((g_ix N b : Nat) : Int) < N 7 6 ∧ N 130 (g_ix N b : Nat) = b := by
  obtain ⟨c, hc, e⟩ := hA.1.2.2.2 b hb.1.2 hb
  exact Classical.epsilon_spec (p := fun c : Nat => (c : Int) < N 7 6 ∧ N 130 c = b) ⟨c.toNat, by rw [show ((c.toNat : Nat) : Int) = c by omega]; exact ⟨hc.2, e⟩⟩
theorem g_sh_n {M N : bM} {d l p x : Int} {t : Nat} (hA : Ga M d l p N) (h : Sh M d l p x t) : (t : Int) < min (N 7 6) 8 := by
  have g1 := hA.1.1
  have := g_min_n (m := (N 7 6).toNat) (g_ix N) (fun b hb => by have := g_ix_s hA hb; omega) (fun b c hb hc e => by rw [← (g_ix_s hA hb).2, ← (g_ix_s hA hc).2, e]) h.2.1 h.2.2
  have := h.1
  omega
theorem t_sh {M N Q : bM} {d l p x : Int} (hG : G_all M d) (hA : Ga M d l p N) (hN : b_fr W_gat M N) (hQ : H_n N Q) (hL : Lt M d l p x N Q (min (N 7 6) 8)) : b_wp (F_X2_shortest Q) (fun v => (v = 0 ∧ ¬ Ch M d l p x) ∨ ∃ t : Nat, v = (t : Int) + 1 ∧ Sh M d l p x t) := by
  refine b_wp_m (fun v y => ?_) (t_shortest hG hA hN hQ hL)
  rcases y with ⟨y1, y2⟩ | ⟨t, y1, y2, y3, y4⟩
  · refine Or.inl ⟨y1, fun ⟨t, t1, t2⟩ => ?_⟩
    obtain ⟨m, m1, m2, m3⟩ := g_least (fun t => g_K M d l p x false t) t t2
    have := g_sh_n hA ⟨by omega, m2, m3⟩
    exact y2 m this (g_K_i m2)
  · refine Or.inr ⟨t, y2, by omega, ?_, fun u hu z => y4 u hu (g_K_i z)⟩
    obtain ⟨t2, k1, k2⟩ := g_K_c y3
    by_cases q : t2 = t
    · subst q; exact k2
    · exact absurd (g_K_i k2) (y4 t2 (by omega))
/-- points in order -/
theorem t_sortIns {P : bM} {v1 v2 c m : Int} (hc : 0 ≤ c ∧ c < 30) (hm : 0 ≤ m ∧ m < 30) : b_wp (b_loop (fun t : Int × bM => F_X2_sortPoints_s25 v1 v2 c t.1 t.2) (m, P)) (fun o => (0 ≤ o.1 ∧ o.1 ≤ m) ∧ (∀ c j, c ≠ 138 → o.2 c j = P c j) ∧ (∀ j, 0 ≤ j → j < o.1 → o.2 138 j = P 138 j) ∧ (∀ j, o.1 ≤ j → j < m → o.2 138 (j + 1) = P 138 j) ∧ (∀ j, o.1 ≤ j → j < m → P 133 c < P 138 j) ∧ (0 < o.1 → P 138 (o.1 - 1) ≤ P 133 c)) := by
  refine b_loop_ind (I := fun t : Int × bM => (0 ≤ t.1 ∧ t.1 ≤ m) ∧ (∀ c j, c ≠ 138 → t.2 c j = P c j) ∧ (∀ j, 0 ≤ j → j < t.1 → t.2 138 j = P 138 j) ∧ (∀ j, t.1 ≤ j → j < m → t.2 138 (j + 1) = P 138 j) ∧ (∀ j, t.1 ≤ j → j < m → P 133 c < P 138 j)) (fun t => t.1.toNat) ?_ (m, P) ⟨by dsimp only; omega, fun _ _ _ => rfl, fun _ _ _ => rfl, fun j j0 j1 => by dsimp only at j0; omega, fun j j0 j1 => by dsimp only at j0; omega⟩
  intro ⟨t, Q⟩ ⟨h1, h2, h3, h4, h5⟩
  dsimp only at h1 h2 h3 h4 h5 ⊢
  unfold F_X2_sortPoints_s25
  by_cases q : t ≤ 0
  · exact b_Wt q (b_Ws ⟨h1, h2, h3, h4, h5, fun z => by dsimp only at z; omega⟩)
  · have e := h3 (t - 1) (by omega) (by omega)
    rw [h2 133 c (by decide), e]
    refine b_Wf q (b_Wg (by omega) (b_Wi (fun q1 => b_Ws ⟨h1, h2, h3, h4, h5, fun _ => q1⟩) (fun q1 => b_Wg (by omega) (b_Wl (b_Wg (by omega) (b_Ws ⟨⟨by dsimp only; omega, fun c j hc => ?_, fun j j0 j1 => ?_, fun j j0 j1 => ?_, fun j j0 j1 => ?_⟩, by dsimp only; omega⟩))))))
    · dsimp only
      rw [b_upc hc]; exact h2 c j hc
    · dsimp only at j1 ⊢
      rw [b_upi (by omega)]; exact h3 j j0 (by omega)
    · dsimp only at j0 ⊢
      by_cases qj : j + 1 = t
      · rw [qj, b_ups, show t - 1 = j by omega]
      · rw [b_upi qj]; exact h4 j (by omega) j1
    · dsimp only at j0 ⊢
      by_cases qj : j + 1 = t
      · rw [show j = t - 1 by omega]; omega
      · exact h5 j (by omega) j1
/-- the points of LINKS that have least or more, in order -/
def Sp (N : bM) (least n : Int) (S : Int → Int) (m : Int) : Prop := (0 ≤ m ∧ m ≤ n) ∧ (∀ i, 0 ≤ i → i + 1 < m → S i ≤ S (i + 1)) ∧ (∀ i, 0 ≤ i → i < m → ∃ c, (0 ≤ c ∧ c < n) ∧ S i = N 133 c ∧ least ≤ S i) ∧ ∀ c, 0 ≤ c → c < n → least ≤ N 133 c → ∃ i, (0 ≤ i ∧ i < m) ∧ S i = N 133 c
theorem t_sortPoints {N Q : bM} {x : Int} (hQ : H_n N Q) (hn : 0 ≤ N 7 6 ∧ N 7 6 ≤ 30) : b_wp (F_X2_sortPoints x Q) (fun o => (∀ c j, c ≠ 138 → o.2 c j = Q c j) ∧ Sp N x (N 7 6) (o.2 138) o.1) := by
  unfold F_X2_sortPoints F_X2_sortPoints_b92
  refine b_Wb (b_loop_ind (I := fun s : Int × Int × bM => (0 ≤ s.2.1 ∧ s.2.1 ≤ N 7 6) ∧ (∀ c j, c ≠ 138 → s.2.2 c j = Q c j) ∧ Sp N x s.2.1 (s.2.2 138) s.1) (fun s => (N 7 6 - s.2.1).toNat) ?_ (0, 0, Q) ⟨by dsimp only; omega, fun _ _ _ => rfl, ⟨by dsimp only; omega, fun i i0 i1 => by dsimp only at i1; omega, fun i i0 i1 => by dsimp only at i1; omega, fun c c0 c1 => by dsimp only at c1; omega⟩⟩)
  intro ⟨m, c, P⟩ ⟨h1, h2, h3⟩
  dsimp only at h1 h2 h3 ⊢
  have hP : H_n N P := fun a j a1 a2 a3 => by rw [h2 a j a2]; exact hQ a j a1 a2 a3
  unfold F_X2_sortPoints_s4
  rw [H_nf hP 7 (by decide) (by decide) (by decide), H_nf hP 133 (by decide) (by decide) (by decide)]
  by_cases q : N 7 6 ≤ c
  · refine b_Wt q (b_Ws (b_Ws ⟨h2, ?_⟩))
    rw [show c = N 7 6 by omega] at h3
    exact h3
  · obtain ⟨k1, k2, k3, k4⟩ := h3
    refine b_Wf q (b_Wg (by omega) (b_Wi (fun q1 => b_Wg (by omega) (b_Ws ⟨⟨by dsimp only; omega, h2, ⟨by dsimp only; omega, k2, fun i i0 i1 => ?_, fun c' c0 c1 hc => ?_⟩⟩, by dsimp only; omega⟩)) (fun q1 => b_Wb (b_wp_m (fun o y => ?_) (t_sortIns (P := P) (c := c) (m := m) (by omega) (by omega))))))
    · obtain ⟨c', hc, e⟩ := k3 i i0 i1
      exact ⟨c', by dsimp only; omega, e⟩
    · dsimp only at c1
      by_cases qc : c' = c
      · subst qc; omega
      · exact k4 c' c0 (by omega) hc
    · obtain ⟨a, R⟩ := o
      obtain ⟨y1, y2, y3, y4, y5, y6⟩ := y
      dsimp only at y1 y2 y3 y4 y5 y6 ⊢
      have p133 : P 133 c = N 133 c := hP 133 c (by decide) (by decide) (by decide)
      rw [p133] at y5 y6
      unfold F_X2_sortPoints_b70
      rw [y2 133 c (by decide), p133]
      have val : ∀ j, 0 ≤ j → j < m + 1 → b_up R 138 a (N 133 c) 138 j = if j = a then N 133 c else if j < a then P 138 j else P 138 (j - 1) := by
        intro j j0 j1
        rw [b_upJ]
        by_cases qj : j = a
        · rw [if_pos qj, if_pos qj]
        · rw [if_neg qj, if_neg qj]
          by_cases qj2 : j < a
          · rw [if_pos qj2]; exact y3 j j0 qj2
          · rw [if_neg qj2]
            have := y4 (j - 1) (by omega) (by omega)
            rw [show j - 1 + 1 = j by omega] at this
            exact this
      refine b_Wg (by omega) (b_Wl (b_Wg (by omega) (b_Ws ⟨⟨by dsimp only; omega, fun c' j hc => ?_, ⟨by dsimp only; omega, fun i i0 i1 => ?_, fun i i0 i1 => ?_, fun c' c0 c1 hc => ?_⟩⟩, by dsimp only; omega⟩)))
      · dsimp only
        rw [b_upc hc, y2 c' j hc]; exact h2 c' j hc
      · dsimp only at i1 ⊢
        rw [val i i0 (by omega), val (i + 1) (by omega) (by omega)]
        by_cases qi : i = a
        · rw [if_pos qi, if_neg (by omega), if_neg (by omega), show i + 1 - 1 = i by omega]
          have := y5 i (by omega) (by omega)
          omega
        · by_cases qi2 : i + 1 = a
          · rw [if_neg qi, if_pos (by omega), if_pos qi2]
            have := y6 (by omega)
            rw [show a - 1 = i by omega] at this
            exact this
          · rw [if_neg qi, if_neg qi2]
            by_cases qi3 : i < a
            · rw [if_pos qi3, if_pos (by omega)]
              exact k2 i i0 (by omega)
            · rw [if_neg qi3, if_neg (by omega)]
              have := k2 (i - 1) (by omega) (by omega)
              rw [show i - 1 + 1 = i by omega] at this
              rw [show i + 1 - 1 = i by omega]
              exact this
      · dsimp only at i1 ⊢
        rw [val i i0 (by omega)]
        by_cases qi : i = a
        · rw [if_pos qi]; exact ⟨c, by omega, rfl, by omega⟩
        · rw [if_neg qi]
          by_cases qi3 : i < a
          · rw [if_pos qi3]
            obtain ⟨c', hc, e⟩ := k3 i i0 (by omega)
            exact ⟨c', by omega, e⟩
          · rw [if_neg qi3]
            obtain ⟨c', hc, e⟩ := k3 (i - 1) (by omega) (by omega)
            exact ⟨c', by omega, e⟩
      · dsimp only at c1 ⊢
        by_cases qc : c' = c
        · subst qc
          exact ⟨a, by omega, by rw [val a (by omega) (by omega), if_pos rfl]⟩
        · obtain ⟨i, hi, e⟩ := k4 c' c0 (by omega) hc
          by_cases qi : i < a
          · exact ⟨i, by omega, by rw [val i hi.1 (by omega), if_neg (by omega), if_pos qi]; exact e⟩
          · exact ⟨i + 1, by omega, by rw [val (i + 1) (by omega) (by omega), if_neg (by omega), if_neg (by omega), show i + 1 - 1 = i by omega]; exact e⟩
/-- the greatest WEAKEST of CHAINS without a GAP -/
def Gw (M : bM) (d l p least w : Int) : Prop := (w = -1 ∧ ¬ Ch M d l p least) ∨ (Ch M d l p w ∧ least ≤ w ∧ (∃ b, g_lk M l b ∧ w = g_p M b) ∧ ∀ b, g_lk M l b → least ≤ g_p M b → Ch M d l p (g_p M b) → g_p M b ≤ w)
theorem t_gw {M N Q : bM} {d l p x : Int} (hG : G_all M d) (hA : Ga M d l p N) (hN : b_fr W_gat M N) (hQ : H_n N Q) : b_wp (F_X2_greatestWeakest x Q) (fun o => H_n N o.2 ∧ (∀ j, o.2 140 j = Q 140 j) ∧ Gw M d l p x o.1) := by
  have b1 := hG.1.2.2.2.2.2.2.2.2.2
  have g1 := hA.1.1
  unfold F_X2_greatestWeakest
  refine b_Wb (b_wp_m (fun R y => ?_) (t_fill (x := x) hG hA hQ))
  obtain ⟨y1, y2⟩ := y
  have hR : H_n N R := fun a j a1 a2 a3 => by rw [y1 a j a1]; exact hQ a j a1 a2 a3
  refine b_Wb (b_wp_m (fun v yv => ?_) (t_sh hG hA hN hR y2))
  rcases yv with ⟨rfl, yv⟩ | ⟨t, e, hs⟩
  · exact b_Wt rfl (b_Ws ⟨hR, fun j => y1 140 j (by decide), Or.inl ⟨rfl, yv⟩⟩)
  · refine b_Wf (by omega) (b_Wb (b_wp_m (fun o z => ?_) (t_sortPoints (x := x) hR ⟨by omega, by omega⟩)))
    obtain ⟨m, S⟩ := o
    obtain ⟨z1, z2⟩ := z
    dsimp only at z1 z2
    obtain ⟨s1, s2, s3, s4⟩ := z2
    have hS : H_n N S := fun a j a1 a2 a3 => by rw [z1 a j a2]; exact hR a j a1 a2 a3
    have mono : ∀ (k : Nat) (i : Int), 0 ≤ i → i + k < m → S 138 i ≤ S 138 (i + k) := by
      intro k
      induction k with
      | zero => intro i _ _; rw [show i + ((0 : Nat) : Int) = i by omega]; exact Int.le_refl _
      | succ k ih =>
        intro i i0 i1
        have h1 := ih i i0 (by omega)
        have h2 := s2 (i + k) (by omega) (by omega)
        rw [show i + ((k + 1 : Nat) : Int) = i + k + 1 by omega]
        omega
    have mono2 : ∀ i j, 0 ≤ i → i ≤ j → j < m → S 138 i ≤ S 138 j := by
      intro i j i0 ij j1
      have := mono (j - i).toNat i i0 (by omega)
      rw [show i + (((j - i).toNat : Nat) : Int) = j by omega] at this
      exact this
    have lk : ∀ c, 0 ≤ c → c < N 7 6 → g_lk M l (N 130 c) ∧ N 133 c = g_p M (N 130 c) := by
      intro c c0 c1
      obtain ⟨⟨a1, a2⟩, a3, a4, a5, a6, a7⟩ := hA.1.2.1 c c0 c1
      exact ⟨a1, a5⟩
    obtain ⟨c0, hc0, hw0, hch0⟩ := Ch_w (M := M) (d := d) (l := l) (p := p) (x := x) ⟨t, hs.1, hs.2.1⟩
    obtain ⟨e0, he0, ee0⟩ := hA.1.2.2.2 c0 hc0.1.2 hc0
    have hl0 := lk e0 he0.1 he0.2
    rw [ee0] at hl0
    obtain ⟨i0, hi0, ei0⟩ := s4 e0 he0.1 he0.2 (by omega)
    have ch0 : Ch M d l p (S 138 0) := Ch_x (by have := mono2 0 i0 (by omega) hi0.1 hi0.2; omega) hch0
    refine b_Wtwo ?_
    dsimp only
    refine b_Wg (by omega) (b_Wb (b_wp_m (fun o w => ?_) (b_loop_ind (P := fun o : Int × bM => H_n N o.2 ∧ (∀ c j, c ≠ 137 → o.2 c j = S c j) ∧ (0 ≤ o.1 ∧ o.1 < m) ∧ Ch M d l p (S 138 o.1) ∧ ∀ j, o.1 < j → j < m → ¬ Ch M d l p (S 138 j)) (I := fun s : Int × Int × Int × bM => H_n N s.2.2.2 ∧ (∀ c j, c ≠ 137 → s.2.2.2 c j = S c j) ∧ ((0 ≤ s.1 ∧ s.1 ≤ s.2.1 ∧ s.2.1 < m) ∧ (0 ≤ s.2.2.1 ∧ s.2.2.1 ≤ 30) ∧ (s.1 < s.2.1 → s.2.1 - s.1 ≤ 29 - s.2.2.1)) ∧ Ch M d l p (S 138 s.1) ∧ ∀ j, s.2.1 < j → j < m → ¬ Ch M d l p (S 138 j)) (fun s => (30 - s.2.2.1).toNat) ?_ (0, m - 1, 0, S) ⟨hS, fun _ _ _ => rfl, ⟨by dsimp only; omega, by dsimp only; omega, fun _ => by dsimp only; omega⟩, ch0, fun j j0 j1 => by dsimp only at j0; omega⟩)))
    · obtain ⟨low, U⟩ := o
      obtain ⟨w1, w2, w3, w4, w5⟩ := w
      dsimp only at w1 w2 w3 w4 w5 ⊢
      unfold F_X2_greatestWeakest_b83
      rw [w2 138 low (by decide)]
      refine b_Wg (by omega) (b_Ws ⟨w1, fun j => ?_, Or.inr ⟨w4, ?_, ?_, fun b hb hb2 hb3 => ?_⟩⟩)
      · dsimp only
        rw [w2 140 j (by decide), z1 140 j (by decide), y1 140 j (by decide)]
      · obtain ⟨c, hc, e1, e2⟩ := s3 low w3.1 w3.2
        exact e2
      · obtain ⟨c, hc, e1, e2⟩ := s3 low w3.1 w3.2
        have := lk c hc.1 hc.2
        exact ⟨N 130 c, this.1, by dsimp only; rw [e1]; exact this.2⟩
      · obtain ⟨e, he, ee⟩ := hA.1.2.2.2 b hb.1.2 hb
        have hl := lk e he.1 he.2
        rw [ee] at hl
        obtain ⟨i, hi, ei⟩ := s4 e he.1 he.2 (by omega)
        by_cases qi : low < i
        · exact absurd (by rw [ei, hl.2]; exact hb3) (w5 i qi hi.2)
        · have := mono2 i low hi.1 (by omega) w3.2
          dsimp only
          omega
    · intro ⟨low, high, i, U⟩ ⟨k1, k2, ⟨k3, k4, k5⟩, k6, k7⟩
      dsimp only at k1 k2 k3 k4 k5 k6 k7 ⊢
      unfold F_X2_greatestWeakest_s27
      have done : high ≤ low → H_n N U ∧ (∀ c j, c ≠ 137 → U c j = S c j) ∧ (0 ≤ low ∧ low < m) ∧ Ch M d l p (S 138 low) ∧ ∀ j, low < j → j < m → ¬ Ch M d l p (S 138 j) := by
        intro z
        refine ⟨k1, k2, by omega, k6, ?_⟩
        rw [show low = high by omega]
        exact k7
      refine b_Wi (fun q => b_Ws (done ?_)) (fun q => b_Wi (fun q2 => b_Ws (done q2)) (fun q2 => ?_))
      · by_cases z : low < high
        · have := k5 z; omega
        · omega
      · have k8 := k5 (by omega)
        rw [i_div_e (x := low + high + 1) (y := 2) (by omega) (by omega)]
        refine b_Wg (by omega) (b_Wl ?_)
        generalize hmid : (low + high + 1) / 2 = mid
        have hm1 : low < mid ∧ mid ≤ high := by omega
        refine b_Wg (by omega) ?_
        rw [k2 138 mid (by decide)]
        refine b_Wb (b_wp_m (fun V x1 => ?_) (t_fill (x := S 138 mid) hG hA k1))
        obtain ⟨x1, x2⟩ := x1
        have hV : H_n N V := fun a j a1 a2 a3 => by rw [x1 a j a1]; exact k1 a j a1 a2 a3
        have hV2 : ∀ c j, c ≠ 137 → V c j = S c j := fun c j hc => by rw [x1 c j hc]; exact k2 c j hc
        refine b_Wb (b_wp_m (fun v yv => ?_) (t_sh hG hA hN hV x2))
        rcases yv with ⟨y3, yv⟩ | ⟨t', e', hs'⟩
        · refine b_Wt (by omega) (b_Wg (by omega) (b_Ws ⟨⟨hV, hV2, ⟨by dsimp only; omega, by dsimp only; omega, fun _ => by dsimp only; omega⟩, k6, fun j j0 j1 => ?_⟩, by dsimp only; omega⟩))
          dsimp only at j0
          by_cases qj : j = mid
          · subst qj; exact yv
          · by_cases qj2 : high < j
            · exact k7 j qj2 j1
            · exact fun z => yv (Ch_x (mono2 mid j (by omega) (by omega) j1) z)
        · exact b_Wf (by omega) (b_Wg (by omega) (b_Ws ⟨⟨hV, hV2, ⟨by dsimp only; omega, by dsimp only; omega, fun _ => by dsimp only; omega⟩, ⟨t', hs'.1, hs'.2.1⟩, k7⟩, by dsimp only; omega⟩))
