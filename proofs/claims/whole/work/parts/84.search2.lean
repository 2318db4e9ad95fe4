/-- the ROOT alone -/
def Br (M : bM) (d l p r0 : Int) : Prop := (r0 = -1 ∧ ∀ r, g_rt M l r → ¬ g_en M d p (x_lab M d (M 217 r))) ∨ (g_rt M l r0 ∧ g_en M d p (x_lab M d (M 217 r0)) ∧ ∀ r, r < r0 → g_rt M l r → ¬ g_en M d p (x_lab M d (M 217 r)))
/-- a LINK behind a GAP -/
def Vp (M : bM) (d l p r b : Int) : Prop := g_rt M l r ∧ g_lk M l b ∧ g_en M d p (x_lab M d (g_T M b)) ∧ M 218 r ≤ g_F M b
def Gp (M : bM) (d l p best r0 b0 : Int) : Prop := Vp M d l p r0 b0 ∧ best = g_p M b0 ∧ ∀ r b, Vp M d l p r b → g_p M b ≤ best ∧ (g_p M b = best → r0 < r ∨ (r0 = r ∧ b0 ≤ b))
/-- the row of LINKS -/
def Nx (M : bM) (d l p x : Int) (u : Nat) (c D b : Int) : Prop := b ≠ c ∧ g_nx M d (x_lab M d (g_T M c)) b ∧ D ≤ g_F M b ∧ g_P M d l p x false u b (max D (g_B M b))
def Rp (M : bM) (d l p x : Int) (t : Nat) (r : Int) (f D : Nat → Int) (k : Nat) : Prop := (g_R M d l p x false t r (f 0) ∧ (∀ b, b < f 0 → ¬ g_R M d l p x false t r b) ∧ D 0 = max (M 218 r) (g_B M (f 0))) ∧ ∀ i, i < k → Nx M d l p x (t - i - 1) (f i) (D i) (f (i + 1)) ∧ (∀ b, b < f (i + 1) → ¬ Nx M d l p x (t - i - 1) (f i) (D i) b) ∧ D (i + 1) = max (D i) (g_B M (f (i + 1)))
def Rw (M : bM) (d l p x : Int) (t : Nat) (r : Int) (f : Nat → Int) : Prop := ∃ D, Rp M d l p x t r f D t
theorem Rp_u {M : bM} {d l p x : Int} {t : Nat} {r : Int} {f D f2 D2 : Nat → Int} {k : Nat} (h1 : Rp M d l p x t r f D k) (h2 : Rp M d l p x t r f2 D2 k) : ∀ i, i ≤ k → f i = f2 i ∧ D i = D2 i := by
  intro i
  induction i with
  | zero =>
    intro _
    have e : f 0 = f2 0 := by
      rcases Int.lt_trichotomy (f 0) (f2 0) with q | q | q
      · exact absurd h1.1.1 (h2.1.2.1 _ q)
      · exact q
      · exact absurd h2.1.1 (h1.1.2.1 _ q)
    refine ⟨e, ?_⟩
    rw [h1.1.2.2, h2.1.2.2, e]
  | succ i ih =>
    intro hi
    obtain ⟨e1, e2⟩ := ih (by omega)
    have a := h1.2 i (by omega)
    have b := h2.2 i (by omega)
    rw [← e1, ← e2] at b
    have e : f (i + 1) = f2 (i + 1) := by
      rcases Int.lt_trichotomy (f (i + 1)) (f2 (i + 1)) with q | q | q
      · exact absurd a.1 (b.2.1 _ q)
      · exact q
      · exact absurd b.1 (a.2.1 _ q)
    refine ⟨e, ?_⟩
    rw [a.2.2, b.2.2, e]
theorem Rp_q {M : bM} {d l p x : Int} {t : Nat} {r : Int} {f D : Nat → Int} : ∀ k, k ≤ t → Rp M d l p x t r f D k → g_Q M d l x k (f k) (D k) ∧ g_P M d l p x false (t - k) (f k) (D k) := by
  intro k
  induction k with
  | zero =>
    intro _ h
    refine ⟨⟨r, h.1.1.1, h.1.2.2⟩, ?_⟩
    rw [h.1.2.2]
    exact h.1.1.2
  | succ k ih =>
    intro hk h
    have h0 : Rp M d l p x t r f D k := ⟨h.1, fun i hi => h.2 i (by omega)⟩
    obtain ⟨q1, q2⟩ := ih (by omega) h0
    obtain ⟨s1, s2, s3⟩ := h.2 k (by omega)
    have hlk := g_P_lk q2
    refine ⟨⟨f k, D k, q1, hlk.1, hlk.2, s1.1, s1.2.1, s1.2.2.1, s3⟩, ?_⟩
    rw [s3, show t - (k + 1) = t - k - 1 by omega]
    exact s1.2.2.2
theorem eqv0 {M : bM} {d l p x : Int} {t : Nat} {r b : Int} (hs : Sh M d l p x t) : g_R M d l p x true t r b ↔ g_R M d l p x false t r b := by
  constructor
  · intro ⟨h1, h2⟩
    obtain ⟨t2, k1, k2⟩ := g_P_c t b _ (by omega) h2
    by_cases q : t2 = t
    · subst q; exact ⟨h1, k2⟩
    · exact absurd ⟨r, b, h1, k2⟩ (hs.2.2 t2 (by omega))
  · intro ⟨h1, h2⟩
    exact ⟨h1, g_P_i t b _ h2⟩
theorem eqv1 {M : bM} {d l p x : Int} {t k : Nat} {c D b : Int} (hs : Sh M d l p x t) (hk : k < t) (hq : g_Q M d l x k c D) (hc : g_lk M l c ∧ x ≤ g_p M c) : (g_nx M d (x_lab M d (g_T M c)) b ∧ D ≤ g_F M b ∧ g_P M d l p x true (t - k - 1) b (max D (g_B M b))) ↔ Nx M d l p x (t - k - 1) c D b := by
  constructor
  · intro ⟨h1, h2, h3⟩
    obtain ⟨t2, k1, k2⟩ := g_P_c _ b _ (by omega) h3
    by_cases q : b = c
    · exfalso
      subst q
      have hB := g_Q_d hq
      rw [show max D (g_B M b) = D by omega] at k2
      exact hs.2.2 (k + t2) (by omega) (g_QP k t2 b D hq k2)
    · have hq2 : g_Q M d l x (k + 1) b (max D (g_B M b)) := ⟨c, D, hq, hc.1, hc.2, q, h1, h2, rfl⟩
      by_cases qt : t2 = t - k - 1
      · subst qt; exact ⟨q, h1, h2, k2⟩
      · exact absurd (g_QP (k + 1) t2 b _ hq2 k2) (hs.2.2 (k + 1 + t2) (by omega))
  · intro ⟨h0, h1, h2, h3⟩
    exact ⟨h1, h2, g_P_i _ b _ h3⟩
theorem t_bare {M N Q : bM} {d l p : Int} (hG : G_all M d) (hRr : R_root M) (hA : Ga M d l p N) (hN : b_fr W_gat M N) (hp : 0 ≤ p ∧ p < M 2 0) : b_wp (F_X2_lotOfBareChain N) (fun r => Br M d l p r ∧ -1 ≤ r ∧ r < M 3 0) := by
  have l1 := hG.1.2.2.1.1
  have l3 := hG.1.2.2.1.2.2.1
  have hT := T_ok_of hG.1.1
  have r1 := hG.1.1.1
  obtain ⟨gN, ss⟩ := G_gat hN hG
  unfold F_X2_lotOfBareChain F_X2_lotOfBareChain_b52
  refine b_Wb (b_loop_ind (I := fun s : Int => (0 ≤ s ∧ s ≤ M 3 0) ∧ ∀ r, r < s → g_rt M l r → ¬ g_en M d p (x_lab M d (M 217 r))) (fun s => (M 3 0 - s).toNat) ?_ 0 ⟨by omega, fun r hr w => by have := w.1; omega⟩)
  intro r ⟨h1, h2⟩
  unfold F_X2_lotOfBareChain_s2 F_X2_isRoot
  have n30 : N 3 0 = M 3 0 := hN 3 0 (by decide)
  have n92 : N 92 r = M 92 r := hN 92 r rfl
  rw [n30, n92]
  by_cases q : M 3 0 ≤ r
  · refine b_Wt q (b_Ws ⟨Or.inl ⟨rfl, fun r' w => h2 r' ?_ w⟩, by omega, by omega⟩)
    have := w.1
    omega
  · have hrt := hA.2.2.2.2.1 r h1.1 (by omega)
    have e217 : M 217 r = M 92 r := (l3 r h1.1 (by omega)).1.2
    have hrr := hRr r h1.1 (by omega)
    have skip : (g_rt M l r → ¬ g_en M d p (x_lab M d (M 217 r))) → ((0 ≤ r + 1 ∧ r + 1 ≤ M 3 0) ∧ ∀ r', r' < r + 1 → g_rt M l r' → ¬ g_en M d p (x_lab M d (M 217 r'))) ∧ (M 3 0 - (r + 1)).toNat < (M 3 0 - r).toNat := by
      intro z
      refine ⟨⟨by omega, fun r' hr' => ?_⟩, by omega⟩
      by_cases qr : r' = r
      · subst qr; exact z
      · exact h2 r' (by omega)
    refine b_Wf q (b_Wb (b_Wi (fun z => b_Ws (b_Wt rfl (b_Wg (by omega) (b_Ws (skip (fun w => ?_)))))) (fun z => b_Ws (b_Wf (by decide) (b_Wg (by omega) ?_)))))
    · rw [j_tstu (by omega)] at z
      exact absurd (hrt.mpr w) z
    · rw [j_tstu (by omega)] at z
      have hr : g_rt M l r := hrt.mp (by
        by_cases y : j_bt (N 7 5) r.toNat = true
        · exact y
        · exact absurd y z)
      have hn1 : M 92 r ≠ -1 := by rw [← e217]; exact hr.2.1
      have hlr := x_lab_r (d := d) (p := M 92 r) hT (by omega)
      refine b_We (e_X8_groupOf gN.1.1 gN.2.1 (Or.inr (by rw [hN 2 0 (by decide)]; omega))) ?_
      rw [if_neg hn1, sp_lab ss]
      refine b_Wb (b_wp_m (fun x y => ?_) (t_ends (p := p) (h := x_lab M d (M 92 r)) hG hN ⟨hA.2.1.2.1, hA.2.1.2.2⟩ hA.2.1.1 hp ⟨by omega, (x_lab_p hT).2.1 _⟩))
      rw [← e217] at y
      refine b_Wi (fun z2 => b_Wg (by omega) (b_Ws (skip (fun _ w => ?_)))) (fun z2 => b_Ws ⟨Or.inr ⟨hr, y.2.mp (y.1.resolve_left z2), h2⟩, by omega, by omega⟩)
      have := y.2.mpr w
      omega
theorem t_gapLink {M N Q : bM} {d l p : Int} (hG : G_all M d) (hA : Ga M d l p N) (hN : b_fr W_gat M N) (hQ : H_n N Q) : b_wp (F_X2_takeLinkWithGap Q) (fun o => H_n N o.2 ∧ ((o.1 = 0 ∧ ∀ r b, ¬ Vp M d l p r b) ∨ (o.1 = 1 ∧ ∃ best r0 b0, Gp M d l p best r0 b0 ∧ o.2 140 0 = 1 ∧ o.2 140 1 = best ∧ o.2 140 2 = 1 ∧ o.2 140 3 = r0 ∧ o.2 140 4 = b0))) := by
  have b1 := hG.1.2.2.2.2.2.2.2.2.2
  have g1 := hA.1.1
  have l1 := hG.1.2.2.1.1
  have l4 : M 218 = M 93 := hG.1.2.2.1.2.1.2.2.2.2.2
  have enc : ∀ c, 0 ≤ c → c < N 7 6 → (i_bt (N 7 13) c.toNat = true ↔ g_en M d p (x_lab M d (g_T M (N 130 c)))) := by
    intro c c0 c1
    rw [hA.2.2.1 c c0 c1, Ga_T hA c0 c1]
  unfold F_X2_takeLinkWithGap
  refine b_Wb (b_wp_m (fun o y => ?_) (b_loop_ind (P := fun o : Int × bM => H_n N o.2 ∧ ((o.1 = -1 ∧ ∀ r b, ¬ Vp M d l p r b) ∨ (0 ≤ o.1 ∧ ∃ r0 b0, Gp M d l p o.1 r0 b0 ∧ o.2 140 0 = 1 ∧ o.2 140 1 = o.1 ∧ o.2 140 2 = 1 ∧ o.2 140 3 = r0 ∧ o.2 140 4 = b0))) (I := fun s : Int × Int × bM => (0 ≤ s.2.1 ∧ s.2.1 ≤ M 3 0) ∧ H_n N s.2.2 ∧ ((s.1 = -1 ∧ ∀ r b, r < s.2.1 → ¬ Vp M d l p r b) ∨ (0 ≤ s.1 ∧ ∃ r0 b0, (Vp M d l p r0 b0 ∧ s.1 = g_p M b0 ∧ r0 < s.2.1 ∧ ∀ r b, r < s.2.1 → Vp M d l p r b → g_p M b ≤ s.1 ∧ (g_p M b = s.1 → r0 < r ∨ (r0 = r ∧ b0 ≤ b))) ∧ s.2.2 140 0 = 1 ∧ s.2.2 140 1 = s.1 ∧ s.2.2 140 2 = 1 ∧ s.2.2 140 3 = r0 ∧ s.2.2 140 4 = b0))) (fun s => (M 3 0 - s.2.1).toNat) ?_ (-1, 0, Q) ⟨by dsimp only; omega, hQ, Or.inl ⟨rfl, fun r b hr w => by have := w.1.1; dsimp only at hr; omega⟩⟩))
  · obtain ⟨best, R⟩ := o
    dsimp only at y ⊢
    unfold F_X2_takeLinkWithGap_b108
    rcases y with ⟨y1, ⟨y2, y3⟩ | ⟨y2, r0, b0, y3⟩⟩
    · exact b_Wt y2 (b_Ws ⟨y1, Or.inl ⟨rfl, y3⟩⟩)
    · exact b_Wf (by omega) (b_Ws ⟨y1, Or.inr ⟨rfl, best, r0, b0, y3⟩⟩)
  · intro ⟨best, r, R⟩ ⟨h1, h2, h3⟩
    dsimp only at h1 h2 h3 ⊢
    unfold F_X2_takeLinkWithGap_s4
    have q30 : R 3 0 = M 3 0 := by rw [h2 3 0 (by decide) (by decide) (by decide)]; exact hN 3 0 (by decide)
    rw [q30]
    by_cases q : M 3 0 ≤ r
    · have all : ∀ r' b, Vp M d l p r' b → r' < r := fun r' b w => by have := w.1.1; omega
      refine b_Wt q (b_Ws ⟨h2, ?_⟩)
      rcases h3 with ⟨h4, h5⟩ | ⟨h4, r0, b0, ⟨k1, k2, k3, k4⟩, h6⟩
      · exact Or.inl ⟨h4, fun r' b w => h5 r' b (all r' b w) w⟩
      · exact Or.inr ⟨h4, r0, b0, ⟨k1, k2, fun r' b w => k4 r' b (all r' b w) w⟩, h6⟩
    · have hrt := hA.2.2.2.2.1 r h1.1 (by omega)
      refine b_Wf q (b_Wb (b_wp_m (fun o y => ?_) (b_loop_ind (P := fun o : Int × bM => H_n N o.2 ∧ ((o.1 = -1 ∧ ∀ r' b, r' < r + 1 → ¬ Vp M d l p r' b) ∨ (0 ≤ o.1 ∧ ∃ r0 b0, (Vp M d l p r0 b0 ∧ o.1 = g_p M b0 ∧ r0 < r + 1 ∧ ∀ r' b, r' < r + 1 → Vp M d l p r' b → g_p M b ≤ o.1 ∧ (g_p M b = o.1 → r0 < r' ∨ (r0 = r' ∧ b0 ≤ b))) ∧ o.2 140 0 = 1 ∧ o.2 140 1 = o.1 ∧ o.2 140 2 = 1 ∧ o.2 140 3 = r0 ∧ o.2 140 4 = b0))) (I := fun s : Int × Int × bM => (0 ≤ s.2.1 ∧ s.2.1 ≤ N 7 6) ∧ H_n N s.2.2 ∧ ((s.1 = -1 ∧ ∀ r' b, (r' < r ∨ (r' = r ∧ ∃ e, (0 ≤ e ∧ e < s.2.1) ∧ N 130 e = b)) → ¬ Vp M d l p r' b) ∨ (0 ≤ s.1 ∧ ∃ r0 b0, (Vp M d l p r0 b0 ∧ s.1 = g_p M b0 ∧ r0 < r + 1 ∧ ∀ r' b, (r' < r ∨ (r' = r ∧ ∃ e, (0 ≤ e ∧ e < s.2.1) ∧ N 130 e = b)) → Vp M d l p r' b → g_p M b ≤ s.1 ∧ (g_p M b = s.1 → r0 < r' ∨ (r0 = r' ∧ b0 ≤ b))) ∧ (r0 = r → ∃ e, (0 ≤ e ∧ e < s.2.1) ∧ N 130 e = b0) ∧ s.2.2 140 0 = 1 ∧ s.2.2 140 1 = s.1 ∧ s.2.2 140 2 = 1 ∧ s.2.2 140 3 = r0 ∧ s.2.2 140 4 = b0))) (fun s => (N 7 6 - s.2.1).toNat) ?_ (best, 0, R) ⟨by dsimp only; omega, h2, ?_⟩)))
      · obtain ⟨best', R'⟩ := o
        dsimp only at y ⊢
        unfold F_X2_takeLinkWithGap_b102
        exact b_Wg (by omega) (b_Ws ⟨⟨by dsimp only; omega, y.1, y.2⟩, by dsimp only; omega⟩)
      · intro ⟨bs, e, S⟩ ⟨k1, k2, k3⟩
        dsimp only at k1 k2 k3 ⊢
        unfold F_X2_takeLinkWithGap_s17 F_X2_isRoot F_X2_isEnder
        have s93 : S 93 r = M 218 r := by rw [l4, k2 93 r (by decide) (by decide) (by decide)]; exact hN 93 r rfl
        rw [H_nf k2 7 (by decide) (by decide) (by decide), H_nf k2 132 (by decide) (by decide) (by decide), H_nf k2 133 (by decide) (by decide) (by decide), s93]
        have allP : (∀ b, Vp M d l p r b → ∃ e', (0 ≤ e' ∧ e' < e) ∧ N 130 e' = b) → (H_n N S ∧ ((bs = -1 ∧ ∀ r' b, r' < r + 1 → ¬ Vp M d l p r' b) ∨ (0 ≤ bs ∧ ∃ r0 b0, (Vp M d l p r0 b0 ∧ bs = g_p M b0 ∧ r0 < r + 1 ∧ ∀ r' b, r' < r + 1 → Vp M d l p r' b → g_p M b ≤ bs ∧ (g_p M b = bs → r0 < r' ∨ (r0 = r' ∧ b0 ≤ b))) ∧ S 140 0 = 1 ∧ S 140 1 = bs ∧ S 140 2 = 1 ∧ S 140 3 = r0 ∧ S 140 4 = b0))) := by
          intro ex
          have cv : ∀ r' b, r' < r + 1 → Vp M d l p r' b → (r' < r ∨ (r' = r ∧ ∃ e', (0 ≤ e' ∧ e' < e) ∧ N 130 e' = b)) := by
            intro r' b hr' w
            by_cases qr : r' = r
            · subst qr; exact Or.inr ⟨rfl, ex b w⟩
            · exact Or.inl (by omega)
          refine ⟨k2, ?_⟩
          rcases k3 with ⟨k4, k5⟩ | ⟨k4, r0, b0, ⟨a1, a2, a3, a4⟩, a5, a6⟩
          · exact Or.inl ⟨k4, fun r' b hr' w => k5 r' b (cv r' b hr' w) w⟩
          · exact Or.inr ⟨k4, r0, b0, ⟨a1, a2, a3, fun r' b hr' w => a4 r' b (cv r' b hr' w) w⟩, a6⟩
        by_cases qe : N 7 6 ≤ e
        · refine b_Wt qe (b_Ws (allP (fun b w => ?_)))
          obtain ⟨e', he, ee⟩ := hA.1.2.2.2 b w.2.1.1.2 w.2.1
          exact ⟨e', by omega, ee⟩
        · obtain ⟨⟨c1, c2⟩, c3, c4, c5, c6, c7⟩ := hA.1.2.1 e k1.1 (by omega)
          have hrr := G_r hG c1.1
          have skip : ¬ (Vp M d l p r (N 130 e) ∧ bs < N 133 e) → ((0 ≤ e + 1 ∧ e + 1 ≤ N 7 6) ∧ H_n N S ∧ ((bs = -1 ∧ ∀ r' b, (r' < r ∨ (r' = r ∧ ∃ e', (0 ≤ e' ∧ e' < e + 1) ∧ N 130 e' = b)) → ¬ Vp M d l p r' b) ∨ (0 ≤ bs ∧ ∃ r0 b0, (Vp M d l p r0 b0 ∧ bs = g_p M b0 ∧ r0 < r + 1 ∧ ∀ r' b, (r' < r ∨ (r' = r ∧ ∃ e', (0 ≤ e' ∧ e' < e + 1) ∧ N 130 e' = b)) → Vp M d l p r' b → g_p M b ≤ bs ∧ (g_p M b = bs → r0 < r' ∨ (r0 = r' ∧ b0 ≤ b))) ∧ (r0 = r → ∃ e', (0 ≤ e' ∧ e' < e + 1) ∧ N 130 e' = b0) ∧ S 140 0 = 1 ∧ S 140 1 = bs ∧ S 140 2 = 1 ∧ S 140 3 = r0 ∧ S 140 4 = b0))) ∧ (N 7 6 - (e + 1)).toNat < (N 7 6 - e).toNat := by
            intro z
            refine ⟨⟨by omega, k2, ?_⟩, by omega⟩
            rcases k3 with ⟨k4, k5⟩ | ⟨k4, r0, b0, ⟨a1, a2, a3, a4⟩, a5, a6⟩
            · refine Or.inl ⟨k4, fun r' b hb w => ?_⟩
              rcases hb with hb | ⟨hb, e', he', eb⟩
              · exact k5 r' b (Or.inl hb) w
              · by_cases q2 : e' = e
                · subst q2
                  rw [hb, ← eb] at w
                  exact z ⟨w, by omega⟩
                · exact k5 r' b (Or.inr ⟨hb, e', by omega, eb⟩) w
            · refine Or.inr ⟨k4, r0, b0, ⟨a1, a2, a3, fun r' b hb w => ?_⟩, fun y => ?_, a6⟩
              · rcases hb with hb | ⟨hb, e', he', eb⟩
                · exact a4 r' b (Or.inl hb) w
                · by_cases q2 : e' = e
                  · subst q2
                    have hz : ¬ bs < N 133 e' := fun y => z ⟨by rw [hb, ← eb] at w; exact w, y⟩
                    rw [← eb]
                    refine ⟨by omega, fun _ => ?_⟩
                    by_cases q3 : r0 = r
                    · obtain ⟨e0, he0, eb0⟩ := a5 q3
                      have := hA.1.2.2.1 e0 e' he0.1 he0.2 (by omega)
                      exact Or.inr ⟨by omega, by omega⟩
                    · exact Or.inl (by omega)
                  · exact a4 r' b (Or.inr ⟨hb, e', by omega, eb⟩) w
              · obtain ⟨e0, he0, eb0⟩ := a5 y
                exact ⟨e0, by omega, eb0⟩
          refine b_Wf qe (b_Wb (b_Wi (fun z => b_Ws (b_Wt rfl (b_Ws (allP (fun b w => ?_))))) (fun z => b_Ws (b_Wf (by decide) ?_))))
          · rw [j_tstu (by omega)] at z
            exact absurd (hrt.mpr w.1) z
          · rw [j_tstu (by omega)] at z
            have hr : g_rt M l r := hrt.mp (by
              by_cases y : j_bt (N 7 5) r.toNat = true
              · exact y
              · exact absurd y z)
            rw [i_bt_ushr (by omega)]
            refine b_Wb ?_
            by_cases qb : i_bt (N 7 13) e.toNat = true
            · rw [if_pos qb]
              have hen := (enc e k1.1 (by omega)).mp qb
              refine b_Wf (by decide) (b_Ws (b_Wf (by decide) (b_Wg (by omega) (b_Wi (fun z2 => b_Wg (by omega) (b_Ws (skip (fun w => by have := w.1.2.2.2; omega)))) (fun z2 => b_Wg (by omega) (b_Wi (fun z3 => b_Wg (by omega) (b_Ws (skip (fun w => by have := w.2; omega)))) (fun z3 => b_Wg (by omega) (b_Wl ?_))))))))
              have hv : Vp M d l p r (N 130 e) := ⟨hr, c1, hen, by omega⟩
              unfold F_X2_tell
              refine b_Wb (b_Wl (b_Wl (b_Wl (b_Wl (b_Ws (b_Wg (by omega) (b_Wl ?_)))))))
              generalize hS2 : b_up (b_up (b_up (b_up (b_up S 140 0 1) 140 1 (N 133 e)) 140 2 1) 140 3 r) 140 4 (b_up (b_up (b_up (b_up S 140 0 1) 140 1 (N 133 e)) 140 2 1) 140 3 r 130 e) = S2
              have g2 : S2 140 0 = 1 ∧ S2 140 1 = N 133 e ∧ S2 140 2 = 1 ∧ S2 140 3 = r ∧ S2 140 4 = N 130 e := by
                have e130 : S 130 e = N 130 e := k2 130 e (by decide) (by decide) (by decide)
                subst hS2
                simp [b_up, e130]
              have f2 : H_n N S2 := fun a j a1 a2 a3 => by
                subst hS2
                rw [b_upc a3, b_upc a3, b_upc a3, b_upc a3, b_upc a3]; exact k2 a j a1 a2 a3
              clear hS2
              refine b_Wg (by omega) (b_Ws ⟨⟨by dsimp only; omega, f2, Or.inr ⟨by dsimp only; omega, r, N 130 e, ⟨hv, c5, by omega, fun r' b hb w => ?_⟩, fun _ => ⟨e, by dsimp only; omega, rfl⟩, g2⟩⟩, by dsimp only; omega⟩)
              dsimp only at hb ⊢
              have old : (r' < r ∨ (r' = r ∧ ∃ e', (0 ≤ e' ∧ e' < e) ∧ N 130 e' = b)) → g_p M b < N 133 e := by
                intro hb2
                rcases k3 with ⟨k4, k5⟩ | ⟨k4, r0, b0, ⟨a1, a2, a3, a4⟩, a5, a6⟩
                · exact absurd w (k5 r' b hb2)
                · have := (a4 r' b hb2 w).1
                  omega
              rcases hb with hb | ⟨hb, e', he', eb⟩
              · have := old (Or.inl hb)
                exact ⟨by omega, fun y => by omega⟩
              · by_cases q2 : e' = e
                · subst q2
                  rw [← eb]
                  exact ⟨by omega, fun _ => Or.inr ⟨hb.symm, Int.le_refl _⟩⟩
                · have := old (Or.inr ⟨hb, e', by omega, eb⟩)
                  exact ⟨by omega, fun y => by omega⟩
            · rw [if_neg qb]
              refine b_Wt rfl (b_Ws (b_Wt rfl (b_Wg (by omega) (b_Ws (skip (fun w => qb ((enc e k1.1 (by omega)).mpr w.1.2.2.1)))))))
      · dsimp only
        rcases h3 with ⟨h4, h5⟩ | ⟨h4, r0, b0, ⟨k1, k2, k3, k4⟩, h6⟩
        · refine Or.inl ⟨h4, fun r' b hb => ?_⟩
          rcases hb with hb | ⟨_, e', he', _⟩
          · exact h5 r' b hb
          · omega
        · refine Or.inr ⟨h4, r0, b0, ⟨k1, k2, by omega, fun r' b hb => ?_⟩, fun y => by omega, h6⟩
          rcases hb with hb | ⟨_, e', he', _⟩
          · exact k4 r' b hb
          · omega
