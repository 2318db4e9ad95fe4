def W_ch : bW := [(11, some 80), (11, some 81), (11, some 82), (11, some 83), (11, some 84), (11, some 85), (11, some 86), (11, some 87), (219, none), (220, none), (221, none), (222, none), (223, none)]
/-- all that the reference's search rests on -/
def O_all (M : bM) (d : Int) : Prop := G_all M d ∧ Eo M d ∧ P_all M ∧ R_root M
theorem O_eq {M : bM} {d b : Int} (hO : O_all M d) (hb : 0 ≤ b ∧ b < M 6 0) : M 209 (3 * b) = g_G M b ∧ M 209 (3 * b + 1) = g_T M b ∧ M 209 (3 * b + 2) = g_L M b ∧ M 211 b = g_B M b ∧ M 212 b = g_F M b ∧ F_X12_pointsOf b M = some (g_p M b) := by
  have b1 := hO.1.1.2.2.2.2.2.2.2.2
  have hf := hO.1.2.2.2.2.2 b hb.1 hb.2
  have ho := hO.2.1.2 b hb.1 (by have := b1.1; omega)
  obtain ⟨u0, u1, u2, u3, u4, u5, u6, u7, u8, u9⟩ := EO_eq hf ho
  refine ⟨u0.symm, u1.symm, u2.symm, u3.symm, u4.symm, ?_⟩
  rw [e_pts ho (by have := b1.2; omega), ← u8]
/-- the reference searches -/
def Zc (M : bM) (d l p : Int) (N : bM) : Prop := b_fr W_ch M N ∧ ((N 11 80 = 0 ∨ N 11 80 = 1) ∧ (N 11 80 = 1 ↔ x_rule M d 8 = 1)) ∧ N 11 81 = d ∧ N 11 82 = M 174 l ∧ N 11 83 = p
theorem Zc_up {M N P : bM} {d l p : Int} (hZ : Zc M d l p N) (hP : ∀ c j, c ≠ 219 → c ≠ 220 → c ≠ 221 → c ≠ 222 → c ≠ 223 → ¬ (c = 11 ∧ 84 ≤ j ∧ j ≤ 87) → P c j = N c j) : Zc M d l p P := by
  obtain ⟨h1, h2, h3, h4, h5⟩ := hZ
  refine ⟨fun c i hi => ?_, ?_, ?_, ?_, ?_⟩
  · have q : ∀ k : Nat, k = 219 ∨ k = 220 ∨ k = 221 ∨ k = 222 ∨ k = 223 → c ≠ k := by
      intro k hk e
      subst e
      rcases hk with rfl | rfl | rfl | rfl | rfl <;> (revert hi; simp [b_ins, W_ch])
    have q2 : ¬ (c = 11 ∧ 84 ≤ i ∧ i ≤ 87) := by
      intro ⟨e, e1, e2⟩
      subst e
      have : i = 84 ∨ i = 85 ∨ i = 86 ∨ i = 87 := by omega
      rcases this with rfl | rfl | rfl | rfl <;> (revert hi; decide)
    rw [hP c i (q 219 (by omega)) (q 220 (by omega)) (q 221 (by omega)) (q 222 (by omega)) (q 223 (by omega)) q2]
    exact h1 c i hi
  · rw [hP 11 80 (by decide) (by decide) (by decide) (by decide) (by decide) (by omega)]; exact h2
  · rw [hP 11 81 (by decide) (by decide) (by decide) (by decide) (by decide) (by omega)]; exact h3
  · rw [hP 11 82 (by decide) (by decide) (by decide) (by decide) (by decide) (by omega)]; exact h4
  · rw [hP 11 83 (by decide) (by decide) (by decide) (by decide) (by decide) (by omega)]; exact h5
theorem Zc_k {M N : bM} {d l p : Int} (hO : O_all M d) (hZ : Zc M d l p N) : T_ok N ∧ Ko N d ∧ SS M N := by
  have ss : SS M N := b_kp1 hZ.1 (by decide +kernel)
  have r : R_ppl N := R_ppl_k (b_kp1 hZ.1 (by decide +kernel)) hO.1.1.1
  exact ⟨T_ok_of r, Ko_c ss (hZ.1 11 12 (by decide)) (funext fun i => hZ.1 168 i rfl) hO.2.1.1, ss⟩
theorem t_oLink {M N : bM} {d l p b : Int} (hO : O_all M d) (hZ : Zc M d l p N) (hb : 0 ≤ b ∧ b < M 6 0) : b_wp (F_X12_isLink b N) (fun r => (r = 0 ∨ r = 1) ∧ (r = 1 ↔ g_lk M l b)) := by
  have b1 := hO.1.1.2.2.2.2.2.2.2.2.2
  obtain ⟨u0, u1, u2, u3, u4, u5⟩ := O_eq hO hb
  have hr := G_rr hO.1 hb
  have l1 := hO.1.1.2.2.1.1
  have n2 : N 209 (3 * b + 2) = M 126 (10 * b + 2) := by rw [hZ.1 209 _ rfl]; exact u2
  have n1 : N 209 (3 * b + 1) = M 126 (10 * b + 1) := by rw [hZ.1 209 _ rfl]; exact u1
  unfold F_X12_isLink
  rw [n1, n2, hZ.2.2.2.1]
  refine b_Wg (by omega) (b_Wi (fun q => b_Ws ⟨Or.inl rfl, fun z => absurd z (by decide), fun z => absurd q z.2.1⟩) (fun q => b_Wg (by omega) (b_Wi (fun q1 => b_Wg (by omega) (b_Wi (fun q2 => b_Ws ⟨Or.inl rfl, fun z => absurd z (by decide), fun z => absurd q2 z.2.2.2⟩) (fun q2 => b_Ws ⟨Or.inr rfl, fun _ => ⟨hb, q, ?_, q2⟩, fun _ => rfl⟩))) (fun q1 => b_Ws ⟨Or.inl rfl, fun z => absurd z (by decide), fun z => ?_⟩))))
  · rw [j_tst (by omega)] at q1; exact q1
  · rw [j_tst (by omega)] at q1; exact absurd z.2.2.1 q1
theorem t_oNext {M N : bM} {d l p h b : Int} (hO : O_all M d) (hZ : Zc M d l p N) (hb : 0 ≤ b ∧ b < M 6 0) (hh : 0 ≤ h ∧ h < M 2 0) : b_wp (F_X12_isNext h b N) (fun r => (r = 0 ∨ r = 1) ∧ (r = 1 ↔ g_nx M d (x_lab M d h) b)) := by
  have b1 := hO.1.1.2.2.2.2.2.2.2.2.2
  obtain ⟨u0, u1, u2, u3, u4, u5⟩ := O_eq hO hb
  have hr := G_rr hO.1 hb
  have r1 := hO.1.1.1.1
  obtain ⟨kT, kK, ss⟩ := Zc_k hO hZ
  have n12 : N 11 12 = M 11 12 := hZ.1 11 12 (by decide)
  have n0 : N 209 (3 * b) = M 126 (10 * b) := by rw [hZ.1 209 _ rfl]; exact u0
  have n212 : N 212 b = M 126 (10 * b + 4) := by rw [hZ.1 212 _ rfl]; exact u4
  have kh := kK h hh.1 (by omega)
  rw [sp_lab ss] at kh
  unfold F_X12_isNext
  rw [n0, n212, hZ.2.2.1, kh]
  refine b_Wg (by omega) (b_Wl (b_Wi (fun q => b_Ws ⟨Or.inl rfl, fun z => absurd z (by decide), fun z => absurd q z.1⟩) (fun q => b_Wg (by omega) ?_)))
  have kg := kK (M 126 (10 * b)) (by omega) (by omega)
  rw [sp_lab ss] at kg
  rw [kg]
  refine b_Wi (fun q1 => b_Ws ⟨Or.inr rfl, fun _ => ⟨q, Or.inl q1⟩, fun _ => rfl⟩) (fun q1 => b_Wi (fun q2 => b_Ws ⟨Or.inl rfl, fun z => absurd z (by decide), fun z => ?_⟩) (fun q2 => b_Wb (b_wp_m (fun x y => ?_) (e_X12_isChild kT kK (by omega) (by omega)))))
  · rcases z.2 with z | z
    · exact absurd z q1
    · have := hZ.2.1.2.mpr z.1; omega
  · rw [sp_lab ss, sp_chi ss] at y
    refine b_Wi (fun q3 => b_Ws ⟨Or.inl rfl, fun z => absurd z (by decide), fun z => ?_⟩) (fun q3 => b_We (e_X12_deadOf kT kK (by omega)) ?_)
    · rcases z.2 with z | z
      · exact absurd z q1
      · have := y.2.mpr z.2.1; omega
    · rw [sp_lab ss, sp_dea ss]
      refine b_Wi (fun q4 => b_Ws ⟨Or.inl rfl, fun z => absurd z (by decide), fun z => ?_⟩) (fun q4 => b_Wg (by omega) (b_Wi (fun q5 => b_Ws ⟨Or.inl rfl, fun z => absurd z (by decide), fun z => ?_⟩) (fun q5 => b_Ws ⟨Or.inr rfl, fun _ => ⟨q, Or.inr ⟨hZ.2.1.2.mp (hZ.2.1.1.resolve_left q2), y.2.mp (y.1.resolve_left q3), q4, ?_⟩⟩, fun _ => rfl⟩)))
      · rcases z.2 with z | z
        · exact absurd z q1
        · exact absurd q4 z.2.2.1
      · rcases z.2 with z | z
        · exact absurd z q1
        · have h9 : x_dea M d (x_lab M d h) ≤ M 126 (10 * b + 4) := z.2.2.2
          omega
      · show x_dea M d (x_lab M d h) ≤ M 126 (10 * b + 4)
        omega
theorem t_oEnd {M N : bM} {d l p h : Int} (hO : O_all M d) (hZ : Zc M d l p N) (hp : 0 ≤ p ∧ p < M 2 0) (hh : 0 ≤ h ∧ h < M 2 0) : b_wp (F_X12_isEnd h N) (fun r => (r = 0 ∨ r = 1) ∧ (r = 1 ↔ g_en M d p (x_lab M d h))) := by
  have r1 := hO.1.1.1.1
  obtain ⟨kT, kK, ss⟩ := Zc_k hO hZ
  have n12 : N 11 12 = M 11 12 := hZ.1 11 12 (by decide)
  have kh := kK h hh.1 (by omega)
  have kp := kK p hp.1 (by omega)
  rw [sp_lab ss] at kh kp
  unfold F_X12_isEnd
  rw [hZ.2.2.2.2, hZ.2.2.1, kh, kp]
  refine b_Wg (by omega) (b_Wi (fun q1 => b_Ws ⟨Or.inr rfl, fun _ => Or.inl q1, fun _ => rfl⟩) (fun q1 => b_Wi (fun q2 => b_Ws ⟨Or.inl rfl, fun z => absurd z (by decide), fun z => ?_⟩) (fun q2 => b_We (e_X12_deadOf kT kK (by omega)) ?_)))
  · rcases z with z | z
    · exact absurd z q1
    · have := hZ.2.1.2.mpr z.1; omega
  · rw [sp_lab ss, sp_dea ss]
    refine b_Wi (fun q4 => b_Ws ⟨Or.inl rfl, fun z => absurd z (by decide), fun z => ?_⟩) (fun q4 => b_Wb (b_wp_m (fun x y => ?_) (e_X12_isChild kT kK (by omega) (by omega))))
    · rcases z with z | z
      · exact absurd z q1
      · exact absurd q4 z.2.1
    · rw [sp_lab ss, sp_chi ss] at y
      refine b_Wi (fun q3 => b_Ws ⟨Or.inl rfl, fun z => absurd z (by decide), fun z => ?_⟩) (fun q3 => b_Ws ⟨Or.inr rfl, fun _ => Or.inr ⟨hZ.2.1.2.mp (hZ.2.1.1.resolve_left q2), q4, y.2.mp (y.1.resolve_left q3)⟩, fun _ => rfl⟩)
      rcases z with z | z
      · exact absurd z q1
      · have := y.2.mpr z.2.2; omega
theorem t_oRoot {M N : bM} {d l p r : Int} (hO : O_all M d) (hZ : Zc M d l p N) (hr : 0 ≤ r ∧ r < M 11 20) : b_wp (F_X12_isRoot r N) (fun x => (x = 0 ∨ x = 1) ∧ (x = 1 ↔ g_rt M l r)) := by
  have l1 := hO.1.1.2.2.1.1
  have n217 : N 217 r = M 217 r := hZ.1 217 r rfl
  unfold F_X12_isRoot
  rw [n217, hZ.2.2.2.1]
  refine b_Wg (by omega) (b_Wi (fun q => b_Ws ⟨Or.inl rfl, fun z => absurd z (by decide), fun z => absurd q z.2.1⟩) (fun q => b_Wi (fun q1 => b_Ws ⟨Or.inr rfl, fun _ => ⟨hr, q, ?_⟩, fun _ => rfl⟩) (fun q1 => b_Ws ⟨Or.inl rfl, fun z => absurd z (by decide), fun z => ?_⟩)))
  · rw [j_tst (by omega)] at q1; exact q1
  · rw [j_tst (by omega)] at q1; exact absurd z.2.2 q1
theorem root_r {M : bM} {d r : Int} (hO : O_all M d) (hr : 0 ≤ r ∧ r < M 11 20) (hn : M 217 r ≠ -1) : 0 ≤ M 217 r ∧ M 217 r < M 2 0 := by
  have l1 := hO.1.1.2.2.1.1
  have e217 : M 217 r = M 92 r := (hO.1.1.2.2.1.2.2.1 r hr.1 (by omega)).1.2
  have := hO.2.2.2 r hr.1 (by omega)
  omega
/-- the ways between LINKS -/
def Wy (M : bM) (d l p n : Int) (N : bM) : Prop := (∀ b, 0 ≤ b → b < n → (N 223 b = 0 ∨ N 223 b = 1) ∧ (N 223 b = 1 ↔ (g_lk M l b ∧ g_en M d p (x_lab M d (g_T M b))))) ∧ (∀ b e, 0 ≤ b → b < n → 0 ≤ e → e < M 6 0 → (N 221 (30 * b + e) = 0 ∨ N 221 (30 * b + e) = 1) ∧ (N 221 (30 * b + e) = 1 ↔ (e ≠ b ∧ g_lk M l b ∧ g_lk M l e ∧ g_nx M d (x_lab M d (g_T M b)) e))) ∧ ∀ r b, 0 ≤ r → r < M 11 20 → 0 ≤ b → b < n → (N 222 (30 * r + b) = 0 ∨ N 222 (30 * r + b) = 1) ∧ (N 222 (30 * r + b) = 1 ↔ (g_lk M l b ∧ g_st M d l r b))
theorem t_makeWays {M N : bM} {d l p : Int} (hO : O_all M d) (hp : 0 ≤ p ∧ p < M 2 0) (hZ : Zc M d l p N) : b_wp (F_X12_makeWays N) (fun P => Zc M d l p P ∧ (∀ c j, c ≠ 221 → c ≠ 222 → c ≠ 223 → P c j = N c j) ∧ Wy M d l p (M 6 0) P) := by
  have bb := hO.1.1.2.2.2.2.2.2.2.2
  have b0 := bb.1
  have b1 := bb.2
  have l1 := hO.1.1.2.2.1.1
  have zz : ∀ Q : bM, (∀ c j, c ≠ 221 → c ≠ 222 → c ≠ 223 → Q c j = N c j) → Zc M d l p Q := fun Q h => Zc_up hZ (fun c j c1 c2 c3 c4 c5 c6 => h c j c3 c4 c5)
  unfold F_X12_makeWays F_X12_makeWays_b200
  refine b_Wb (b_loop_ind (I := fun t : Int × bM => (0 ≤ t.1 ∧ t.1 ≤ M 6 0) ∧ (∀ c j, c ≠ 221 → c ≠ 222 → c ≠ 223 → t.2 c j = N c j) ∧ Wy M d l p t.1 t.2) (fun t => (M 6 0 - t.1).toNat) ?_ (0, N) ⟨by dsimp only; omega, fun _ _ _ _ _ => rfl, fun b x y => by dsimp only at y; omega, fun b e x y => by dsimp only at y; omega, fun r b _ _ x y => by dsimp only at y; omega⟩)
  intro ⟨b, Q⟩ ⟨h1, h2, h3⟩
  dsimp only at h1 h2 h3 ⊢
  have zQ := zz Q h2
  have q52 : Q 11 52 = M 6 0 := by rw [zQ.1 11 52 (by decide)]; exact b0
  unfold F_X12_makeWays_s2
  rw [q52]
  by_cases q : M 6 0 ≤ b
  · refine b_Wt q (b_Ws (b_Ws ⟨zQ, h2, ?_⟩))
    rw [show b = M 6 0 by omega] at h3
    exact h3
  · have hbb : 0 ≤ b ∧ b < M 6 0 := ⟨h1.1, by omega⟩
    obtain ⟨u0, u1, u2, u3, u4, u5⟩ := O_eq hO hbb
    have hr := G_rr hO.1 hbb
    have go : ∀ x, (x = 0 ∨ x = 1) → (x = 1 ↔ (g_lk M l b ∧ g_en M d p (x_lab M d (g_T M b)))) → b_wp (F_X12_makeWays_b45 b b x Q) (Sum.elim (fun t : Int × bM => ((0 ≤ t.1 ∧ t.1 ≤ M 6 0) ∧ (∀ c j, c ≠ 221 → c ≠ 222 → c ≠ 223 → t.2 c j = N c j) ∧ Wy M d l p t.1 t.2) ∧ (M 6 0 - t.1).toNat < (M 6 0 - b).toNat) (fun r => b_wp (some r) (fun P => Zc M d l p P ∧ (∀ c j, c ≠ 221 → c ≠ 222 → c ≠ 223 → P c j = N c j) ∧ Wy M d l p (M 6 0) P))) := by
      intro x hx hx2
      unfold F_X12_makeWays_b45
      refine b_Wg (by omega) (b_Wl (b_Wb ?_))
      generalize hS : b_up Q 223 b x = S
      have sF : ∀ c j, c ≠ 223 → S c j = Q c j := fun c j hc => by subst hS; exact b_upc hc
      have s223 : ∀ j, S 223 j = if j = b then x else Q 223 j := fun j => by subst hS; exact b_upJ
      clear hS
      refine b_wp_m (fun T yT => ?_) (b_loop_ind (P := fun T : bM => (∀ c j, c ≠ 221 → T c j = S c j) ∧ (∀ j, (j < 30 * b ∨ 30 * b + 30 ≤ j) → T 221 j = S 221 j) ∧ ∀ e, 0 ≤ e → e < M 6 0 → (T 221 (30 * b + e) = 0 ∨ T 221 (30 * b + e) = 1) ∧ (T 221 (30 * b + e) = 1 ↔ (e ≠ b ∧ g_lk M l b ∧ g_lk M l e ∧ g_nx M d (x_lab M d (g_T M b)) e))) (I := fun t : Int × bM => (0 ≤ t.1 ∧ t.1 ≤ M 6 0) ∧ (∀ c j, c ≠ 221 → t.2 c j = S c j) ∧ (∀ j, (j < 30 * b ∨ 30 * b + 30 ≤ j) → t.2 221 j = S 221 j) ∧ ∀ e, 0 ≤ e → e < t.1 → (t.2 221 (30 * b + e) = 0 ∨ t.2 221 (30 * b + e) = 1) ∧ (t.2 221 (30 * b + e) = 1 ↔ (e ≠ b ∧ g_lk M l b ∧ g_lk M l e ∧ g_nx M d (x_lab M d (g_T M b)) e))) (fun t => (M 6 0 - t.1).toNat) ?_ (0, S) ⟨by dsimp only; omega, fun _ _ _ => rfl, fun _ _ => rfl, fun e x y => by dsimp only at y; omega⟩)
      · obtain ⟨y1, y2, y3⟩ := yT
        unfold F_X12_makeWays_b117
        refine b_Wb (b_wp_m (fun U yU => ?_) (b_loop_ind (P := fun U : bM => (∀ c j, c ≠ 222 → U c j = T c j) ∧ (∀ r j, 0 ≤ r → 0 ≤ j → j < 30 → j ≠ b → U 222 (30 * r + j) = T 222 (30 * r + j)) ∧ ∀ r, 0 ≤ r → r < M 11 20 → (U 222 (30 * r + b) = 0 ∨ U 222 (30 * r + b) = 1) ∧ (U 222 (30 * r + b) = 1 ↔ (g_lk M l b ∧ g_st M d l r b))) (I := fun t : Int × bM => (0 ≤ t.1 ∧ t.1 ≤ M 11 20) ∧ (∀ c j, c ≠ 222 → t.2 c j = T c j) ∧ (∀ r j, 0 ≤ r → 0 ≤ j → j < 30 → j ≠ b → t.2 222 (30 * r + j) = T 222 (30 * r + j)) ∧ ∀ r, 0 ≤ r → r < t.1 → (t.2 222 (30 * r + b) = 0 ∨ t.2 222 (30 * r + b) = 1) ∧ (t.2 222 (30 * r + b) = 1 ↔ (g_lk M l b ∧ g_st M d l r b))) (fun t => (M 11 20 - t.1).toNat) ?_ (0, T) ⟨by dsimp only; omega, fun _ _ _ => rfl, fun _ _ _ _ _ _ => rfl, fun r x y => by dsimp only at y; omega⟩))
        · obtain ⟨v1, v2, v3⟩ := yU
          unfold F_X12_makeWays_b194
          refine b_Wg (by omega) (b_Ws ⟨⟨by dsimp only; omega, fun c j c1 c2 c3 => ?_, fun b' x0 x1 => ?_, fun b' e x0 x1 x2 x3 => ?_, fun r b' x0 x1 x2 x3 => ?_⟩, by dsimp only; omega⟩)
          · dsimp only
            rw [v1 c j c2, y1 c j c1, sF c j c3]; exact h2 c j c1 c2 c3
          · dsimp only at x1 ⊢
            rw [v1 223 b' (by decide), y1 223 b' (by decide), s223]
            by_cases qb : b' = b
            · subst qb; rw [if_pos rfl]; exact ⟨hx, hx2⟩
            · rw [if_neg qb]; exact h3.1 b' x0 (by omega)
          · dsimp only at x1 ⊢
            rw [v1 221 _ (by decide)]
            by_cases qb : b' = b
            · subst qb; exact y3 e x2 x3
            · rw [y2 (30 * b' + e) (by omega), sF 221 _ (by decide)]
              exact h3.2.1 b' e x0 (by omega) x2 x3
          · dsimp only at x3 ⊢
            by_cases qb : b' = b
            · subst qb; exact v3 r x0 x1
            · rw [v2 r b' x0 x2 (by omega) qb, y1 222 _ (by decide), sF 222 _ (by decide)]
              exact h3.2.2 r b' x0 x1 x2 (by omega)
        · intro ⟨r, V⟩ ⟨v1, v2, v3, v4⟩
          dsimp only at v1 v2 v3 v4 ⊢
          have zV : Zc M d l p V := zz V (fun c j c1 c2 c3 => by rw [v2 c j c2, y1 c j c1, sF c j c3]; exact h2 c j c1 c2 c3)
          have q20 : V 11 20 = M 11 20 := zV.1 11 20 (by decide)
          have q217 : V 217 r = M 217 r := zV.1 217 r rfl
          have q218 : V 218 r = M 218 r := zV.1 218 r rfl
          have q212 : V 212 b = M 126 (10 * b + 4) := by rw [zV.1 212 b rfl]; exact u4
          unfold F_X12_makeWays_s119 F_X12_makeWays_b186
          rw [q20, q217, q218, q212]
          by_cases qr : M 11 20 ≤ r
          · exact b_Wt qr (b_Ws ⟨v2, v3, fun r' x0 x1 => v4 r' x0 (by omega)⟩)
          · have put : ∀ y, (y = 0 ∨ y = 1) → (y = 1 ↔ (g_lk M l b ∧ g_st M d l r b)) → b_wp (F_X12_makeWays_b187 b r (30 * r + b) y V) (Sum.elim (fun t : Int × bM => ((0 ≤ t.1 ∧ t.1 ≤ M 11 20) ∧ (∀ c j, c ≠ 222 → t.2 c j = T c j) ∧ (∀ r j, 0 ≤ r → 0 ≤ j → j < 30 → j ≠ b → t.2 222 (30 * r + j) = T 222 (30 * r + j)) ∧ ∀ r, 0 ≤ r → r < t.1 → (t.2 222 (30 * r + b) = 0 ∨ t.2 222 (30 * r + b) = 1) ∧ (t.2 222 (30 * r + b) = 1 ↔ (g_lk M l b ∧ g_st M d l r b))) ∧ (M 11 20 - t.1).toNat < (M 11 20 - r).toNat) (fun U : bM => (∀ c j, c ≠ 222 → U c j = T c j) ∧ (∀ r j, 0 ≤ r → 0 ≤ j → j < 30 → j ≠ b → U 222 (30 * r + j) = T 222 (30 * r + j)) ∧ ∀ r, 0 ≤ r → r < M 11 20 → (U 222 (30 * r + b) = 0 ∨ U 222 (30 * r + b) = 1) ∧ (U 222 (30 * r + b) = 1 ↔ (g_lk M l b ∧ g_st M d l r b)))) := by
              intro y hy hy2
              unfold F_X12_makeWays_b187
              refine b_Wg (by omega) (b_Wl (b_Wg (by omega) (b_Ws ⟨⟨by dsimp only; omega, fun c j hc => ?_, fun r' j x0 x1 x2 x3 => ?_, fun r' x0 x1 => ?_⟩, by dsimp only; omega⟩)))
              · dsimp only
                rw [b_upc hc]; exact v2 c j hc
              · dsimp only
                rw [b_upi (by omega)]; exact v3 r' j x0 x1 x2 x3
              · dsimp only at x1 ⊢
                by_cases qq : r' = r
                · subst qq; rw [b_ups]; exact ⟨hy, hy2⟩
                · rw [b_upi (by omega)]; exact v4 r' x0 (by omega)
            refine b_Wf qr (b_Wg (by omega) (b_Wb (b_wp_m (fun y1' w1 => ?_) (t_oLink hO zV hbb))))
            refine b_Wi (fun z => put 0 (Or.inl rfl) ⟨fun y => absurd y (by decide), fun y => by have := w1.2.mpr y.1; omega⟩) (fun z => b_Wb (b_wp_m (fun y2' w2 => ?_) (t_oRoot hO zV (r := r) ⟨v1.1, by omega⟩)))
            refine b_Wi (fun z2 => put 0 (Or.inl rfl) ⟨fun y => absurd y (by decide), fun y => by have := w2.2.mpr y.2.1; omega⟩) (fun z2 => b_Wg (by omega) ?_)
            have hrt := w2.2.mp (w2.1.resolve_left z2)
            have hrr := root_r hO (r := r) ⟨v1.1, by omega⟩ hrt.2.1
            refine b_Wb (b_wp_m (fun y3' w3 => ?_) (t_oNext hO zV hbb hrr))
            refine b_Wi (fun z3 => put 0 (Or.inl rfl) ⟨fun y => absurd y (by decide), fun y => by have := w3.2.mpr y.2.2.1; omega⟩) (fun z3 => b_Wg (by omega) (b_Wi (fun z4 => put 0 (Or.inl rfl) ⟨fun y => absurd y (by decide), fun y => ?_⟩) (fun z4 => put 1 (Or.inr rfl) ⟨fun _ => ⟨w1.2.mp (w1.1.resolve_left z), hrt, w3.2.mp (w3.1.resolve_left z3), ?_⟩, fun _ => rfl⟩)))
            · have h9 : M 218 r ≤ M 126 (10 * b + 4) := y.2.2.2
              omega
            · show M 218 r ≤ M 126 (10 * b + 4)
              omega
      · intro ⟨e, V⟩ ⟨v1, v2, v3, v4⟩
        dsimp only at v1 v2 v3 v4 ⊢
        have zV : Zc M d l p V := zz V (fun c j c1 c2 c3 => by rw [v2 c j c1, sF c j c3]; exact h2 c j c1 c2 c3)
        have q52' : V 11 52 = M 6 0 := by rw [zV.1 11 52 (by decide)]; exact b0
        have q209 : V 209 (3 * b + 1) = M 126 (10 * b + 1) := by rw [zV.1 209 _ rfl]; exact u1
        unfold F_X12_makeWays_s48 F_X12_makeWays_b109
        rw [q52', q209]
        by_cases qe : M 6 0 ≤ e
        · exact b_Wt qe (b_Ws ⟨v2, v3, fun e' x0 x1 => v4 e' x0 (by omega)⟩)
        · have put : ∀ y, (y = 0 ∨ y = 1) → (y = 1 ↔ (e ≠ b ∧ g_lk M l b ∧ g_lk M l e ∧ g_nx M d (x_lab M d (g_T M b)) e)) → b_wp (F_X12_makeWays_b110 b e (30 * b + e) y V) (Sum.elim (fun t : Int × bM => ((0 ≤ t.1 ∧ t.1 ≤ M 6 0) ∧ (∀ c j, c ≠ 221 → t.2 c j = S c j) ∧ (∀ j, (j < 30 * b ∨ 30 * b + 30 ≤ j) → t.2 221 j = S 221 j) ∧ ∀ e, 0 ≤ e → e < t.1 → (t.2 221 (30 * b + e) = 0 ∨ t.2 221 (30 * b + e) = 1) ∧ (t.2 221 (30 * b + e) = 1 ↔ (e ≠ b ∧ g_lk M l b ∧ g_lk M l e ∧ g_nx M d (x_lab M d (g_T M b)) e))) ∧ (M 6 0 - t.1).toNat < (M 6 0 - e).toNat) (fun T : bM => (∀ c j, c ≠ 221 → T c j = S c j) ∧ (∀ j, (j < 30 * b ∨ 30 * b + 30 ≤ j) → T 221 j = S 221 j) ∧ ∀ e, 0 ≤ e → e < M 6 0 → (T 221 (30 * b + e) = 0 ∨ T 221 (30 * b + e) = 1) ∧ (T 221 (30 * b + e) = 1 ↔ (e ≠ b ∧ g_lk M l b ∧ g_lk M l e ∧ g_nx M d (x_lab M d (g_T M b)) e)))) := by
            intro y hy hy2
            unfold F_X12_makeWays_b110
            refine b_Wg (by omega) (b_Wl (b_Wg (by omega) (b_Ws ⟨⟨by dsimp only; omega, fun c j hc => ?_, fun j hj => ?_, fun e' x0 x1 => ?_⟩, by dsimp only; omega⟩)))
            · dsimp only
              rw [b_upc hc]; exact v2 c j hc
            · dsimp only
              rw [b_upi (by omega)]; exact v3 j hj
            · dsimp only at x1 ⊢
              by_cases qq : e' = e
              · subst qq; rw [b_ups]; exact ⟨hy, hy2⟩
              · rw [b_upi (by omega)]; exact v4 e' x0 (by omega)
          refine b_Wf qe (b_Wg (by omega) (b_Wi (fun z => put 0 (Or.inl rfl) ⟨fun y => absurd y (by decide), fun y => absurd z y.1⟩) (fun z => b_Wb (b_wp_m (fun y1' w1 => ?_) (t_oLink hO zV hbb)))))
          refine b_Wi (fun z2 => put 0 (Or.inl rfl) ⟨fun y => absurd y (by decide), fun y => by have := w1.2.mpr y.2.1; omega⟩) (fun z2 => b_Wb (b_wp_m (fun y2' w2 => ?_) (t_oLink hO zV (b := e) ⟨v1.1, by omega⟩)))
          refine b_Wi (fun z3 => put 0 (Or.inl rfl) ⟨fun y => absurd y (by decide), fun y => by have := w2.2.mpr y.2.2.1; omega⟩) (fun z3 => b_Wg (by omega) ?_)
          have hlk := w1.2.mp (w1.1.resolve_left z2)
          have hne : M 126 (10 * b + 1) ≠ -1 := hlk.2.2.2
          refine b_Wb (b_wp_m (fun y3' w3 => ?_) (t_oNext hO zV (b := e) (h := M 126 (10 * b + 1)) ⟨v1.1, by omega⟩ (by omega)))
          exact b_Wi (fun z4 => put 0 (Or.inl rfl) ⟨fun y => absurd y (by decide), fun y => by have := w3.2.mpr y.2.2.2; omega⟩) (fun z4 => put 1 (Or.inr rfl) ⟨fun _ => ⟨z, hlk, w2.2.mp (w2.1.resolve_left z3), w3.2.mp (w3.1.resolve_left z4)⟩, fun _ => rfl⟩)
    have q209 : Q 209 (3 * b + 1) = M 126 (10 * b + 1) := by rw [zQ.1 209 _ rfl]; exact u1
    unfold F_X12_makeWays_b44
    rw [q209]
    refine b_Wf q (b_Wb (b_wp_m (fun y w => ?_) (t_oLink hO zQ hbb)))
    refine b_Wi (fun z => go 0 (Or.inl rfl) ⟨fun y => absurd y (by decide), fun y => by have := w.2.mpr y.1; omega⟩) (fun z => b_Wg (by omega) ?_)
    have hlk := w.2.mp (w.1.resolve_left z)
    have hne : M 126 (10 * b + 1) ≠ -1 := hlk.2.2.2
    refine b_Wb (b_wp_m (fun y2 w2 => ?_) (t_oEnd hO zQ hp (h := M 126 (10 * b + 1)) (by omega)))
    exact b_Wi (fun z2 => go 0 (Or.inl rfl) ⟨fun y => absurd y (by decide), fun y => by have := w2.2.mpr y.2; omega⟩) (fun z2 => go 1 (Or.inr rfl) ⟨fun _ => ⟨hlk, w2.2.mp (w2.1.resolve_left z2)⟩, fun _ => rfl⟩)
