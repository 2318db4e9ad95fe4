def W_gat : bW := [(7, some 3), (7, some 4), (7, some 5), (7, some 6), (7, some 13), (130, none), (131, none), (132, none), (133, none), (134, none), (135, none), (136, none)]
theorem Kn_k {W : bW} {M N : bM} {d : Int} (f : b_fr W M N) (hd : b_dis W S_know = true) (h : Kn M d) : Kn N d := by
  have k := b_kp1 (S := S_know) f hd
  exact Kn_c h (k 2 0 rfl) (k 11 13 rfl) (funext fun i => k 81 i rfl) (funext fun i => k 82 i rfl) (funext fun i => k 83 i rfl) (funext fun i => k 84 i rfl) (funext fun i => k 164 i rfl) (funext fun i => k 165 i rfl) (funext fun i => k 166 i rfl) (funext fun i => k 167 i rfl)
theorem Evc_k {W : bW} {M N : bM} {d : Int} (f : b_fr W M N) (hd : b_dis W S_ev = true) (h : Evc M d) : Evc N d := by
  have k := b_kp1 (S := S_ev) f hd
  exact Evc_c (S_ev_ss k) (k 6 0 rfl) (k 6 7 rfl) (funext fun i => k 126 i rfl) (funext fun i => k 127 i rfl) h
/-- all that a search rests on -/
def G_all (M : bM) (d : Int) : Prop := E_all M ∧ Kn M d ∧ Evc M d
theorem G_all_k {W : bW} {M N : bM} {d : Int} (f : b_fr W M N) (d1 : b_dis W S_ppl = true) (d2 : b_dis W S_know = true) (d3 : b_dis W S_lots = true) (d4 : b_dis W S_sign = true) (d5 : b_dis W S_pap = true) (d6 : b_dis W S_pages = true) (d7 : b_dis W S_rules = true) (d8 : b_dis W S_spec = true) (d9 : b_dis W [(4, some 0), (124, none)] = true) (d10 : b_dis W S_burnt = true) (d11 : b_dis W S_ev = true) (h : G_all M d) : G_all N d := ⟨E_all_k f d1 d2 d3 d4 d5 d6 d7 d8 d9 d10 h.1, Kn_k f d2 h.2.1, Evc_k f d11 h.2.2⟩
theorem G_gat {M N : bM} {d : Int} (f : b_fr W_gat M N) (h : G_all M d) : G_all N d ∧ SS M N := ⟨G_all_k f (by decide +kernel) (by decide +kernel) (by decide +kernel) (by decide +kernel) (by decide +kernel) (by decide +kernel) (by decide +kernel) (by decide +kernel) (by decide +kernel) (by decide +kernel) (by decide +kernel) h, b_kp1 f (by decide +kernel)⟩
theorem x_fin_v {M : bM} {d b w v p q : Int} (h : x_fin M d b w v p q) : v = -1 ∨ ∃ k, (0 ≤ k ∧ k < M 5 0) ∧ v = M 196 (3 * k + w) := by
  obtain ⟨mx, m0, _, _, h⟩ := h
  rcases h with ⟨_, h1, h2, h3⟩ | ⟨_, _, h1, h2, h3⟩ | ⟨_, t, _, ⟨k, g, _, _, e⟩, _, h2, h3⟩
  · exact Or.inl h1
  · exact Or.inl h1
  · exact Or.inr ⟨k, g.1, e⟩
theorem x_sp_r {M : bM} {d b : Int} (hE : E_all M) : (0 ≤ (x_sp M d b).1 ∧ (x_sp M d b).1 ≤ 9999) ∧ (0 ≤ (x_sp M d b).2 ∧ (x_sp M d b).2 ≤ 9999) := by
  have s1 := hE.2.2.2.1.1
  unfold x_sp x_spf
  refine z_fold_i (P := fun s : Int × Int => (0 ≤ s.1 ∧ s.1 ≤ 9999) ∧ (0 ≤ s.2 ∧ s.2 ≤ 9999)) (by dsimp only; omega) _ (fun i s hi hs => ?_)
  unfold x_sps
  have p4 := (hE.2.2.2.2.1 i (by omega) (by omega)).2.2.2.1
  split
  · dsimp only
    omega
  · exact hs
theorem ev_r {M : bM} {d b : Int} (hE : E_all M) (hf : Ef M d b (M 126)) : (-1 ≤ g_G M b ∧ g_G M b < M 2 0) ∧ (-1 ≤ g_T M b ∧ g_T M b < M 2 0) ∧ (-1 ≤ g_L M b ∧ g_L M b < M 3 0) ∧ (0 ≤ g_B M b ∧ g_B M b ≤ 9999) ∧ (0 ≤ g_F M b ∧ g_F M b ≤ 9999) ∧ 0 ≤ g_p M b := by
  have hs := x_sp_r (d := d) (b := b) hE
  have r1 := hE.1.1
  have l1 := hE.2.2.1.1
  obtain ⟨v0, p0, q0, v1, p1, q1, v2, p2, q2, f0, f1, f2, a0, a1, a2, a3, a4, a5, a6, a7, a8, a9⟩ := hf
  have g0 := x_fin_p f0
  have g1 := x_fin_p f1
  have g2 := x_fin_p f2
  refine ⟨?_, ?_, ?_, ?_, ?_, ?_⟩
  · rw [show g_G M b = v0 from a0]
    rcases x_fin_v f0 with e | ⟨k, hk, e⟩
    · omega
    · have := (hE.2.2.2.2.1 k hk.1 hk.2).2.2.2.2.1
      rw [show 3 * k + 0 = 3 * k by omega] at e
      omega
  · rw [show g_T M b = v1 from a1]
    rcases x_fin_v f1 with e | ⟨k, hk, e⟩
    · omega
    · have := (hE.2.2.2.2.1 k hk.1 hk.2).2.2.2.2.2.1
      omega
  · rw [show g_L M b = v2 from a2]
    rcases x_fin_v f2 with e | ⟨k, hk, e⟩
    · omega
    · have := (hE.2.2.2.2.1 k hk.1 hk.2).2.2.2.2.2.2.1
      omega
  · rw [show g_B M b = _ from a3]
    split <;> omega
  · rw [show g_F M b = _ from a4]
    split <;> omega
  · rw [show g_p M b = _ from a8]
    omega
theorem G_r {M : bM} {d b : Int} (hG : G_all M d) (hb : 0 ≤ b ∧ b < M 6 0) : (-1 ≤ g_G M b ∧ g_G M b < M 2 0) ∧ (-1 ≤ g_T M b ∧ g_T M b < M 2 0) ∧ (-1 ≤ g_L M b ∧ g_L M b < M 3 0) ∧ (0 ≤ g_B M b ∧ g_B M b ≤ 9999) ∧ (0 ≤ g_F M b ∧ g_F M b ≤ 9999) ∧ 0 ≤ g_p M b := ev_r hG.1 (hG.2.2.2.2.2 b hb.1 hb.2)
theorem G_rr {M : bM} {d b : Int} (hG : G_all M d) (hb : 0 ≤ b ∧ b < M 6 0) : (-1 ≤ M 126 (10 * b) ∧ M 126 (10 * b) < M 2 0) ∧ (-1 ≤ M 126 (10 * b + 1) ∧ M 126 (10 * b + 1) < M 2 0) ∧ (-1 ≤ M 126 (10 * b + 2) ∧ M 126 (10 * b + 2) < M 3 0) ∧ (0 ≤ M 126 (10 * b + 3) ∧ M 126 (10 * b + 3) ≤ 9999) ∧ (0 ≤ M 126 (10 * b + 4) ∧ M 126 (10 * b + 4) ≤ 9999) ∧ 0 ≤ M 126 (10 * b + 8) := G_r hG hb
/-- the label of somebody, or of nobody -/
def g_lb (M : bM) (d s : Int) : Int := if s = -1 then -1 else x_lab M d s
theorem g_lb_r {M : bM} {d s : Int} (hT : T_ok M) (hs : -1 ≤ s ∧ s < M 11 12) : -1 ≤ g_lb M d s ∧ g_lb M d s < M 11 12 ∧ (s ≠ -1 → 0 ≤ g_lb M d s ∧ x_lab M d (g_lb M d s) = g_lb M d s) ∧ (s = -1 → g_lb M d s = -1) := by
  unfold g_lb
  have h0 := hT.1
  by_cases q : s = -1
  · rw [if_pos q]
    exact ⟨by omega, by omega, fun z => absurd q z, fun _ => rfl⟩
  · rw [if_neg q]
    have := x_lab_r (d := d) (p := s) hT (by omega)
    exact ⟨by omega, by omega, fun _ => ⟨by omega, (x_lab_p hT).2.1 s⟩, fun z => absurd z q⟩
/-- one LINK more -/
theorem t_addLink {M N : bM} {d b : Int} (hG : G_all M d) (f : b_fr W_gat M N) (hb : 0 ≤ b ∧ b < M 6 0) (hn : 0 ≤ N 7 6 ∧ N 7 6 < 30) : b_wp (F_X2_addLink b N) (fun P => P = b_up (b_up (b_up (b_up (b_up (b_up (b_up N 130 (N 7 6) b) 131 (N 7 6) (g_B M b)) 132 (N 7 6) (g_F M b)) 133 (N 7 6) (g_p M b)) 134 (N 7 6) (g_lb M d (g_G M b))) 135 (N 7 6) (g_lb M d (g_T M b))) 7 6 (N 7 6 + 1)) := by
  have hr := G_r hG hb
  have b1 := hG.1.2.2.2.2.2.2.2.2
  have fa : ∀ (Q : bM) (w : Int), b_fr W_gat M Q → 0 ≤ w → w < 10 → F_X4_fact b w Q = some (M 126 (10 * b + w)) := by
    intro Q w fQ w0 w1
    have k6 : Q 6 0 = M 6 0 := fQ 6 0 (by decide)
    rw [e_X4_fact (by omega) (by have := b1.2.2; omega) ⟨w0, w1⟩, fQ 126 _ rfl]
  have go : ∀ (Q : bM) (s : Int), b_fr W_gat M Q → (-1 ≤ s ∧ s < M 2 0) → F_X8_groupOf s Q = some (g_lb M d s) := by
    intro Q s fQ hs
    obtain ⟨gQ, ss⟩ := G_gat fQ hG
    have k2 : Q 2 0 = M 2 0 := fQ 2 0 (by decide)
    rw [e_X8_groupOf gQ.1.1 gQ.2.1 (by omega), sp_lab ss]
    rfl
  unfold F_X2_addLink
  have z7 : ∀ (Q : bM) (c : Nat) (i x : Int), c ≠ 7 → b_up Q c i x 7 6 = Q 7 6 := fun Q c i x h => b_upc (fun e => h e.symm)
  refine b_Wf (by omega) (b_Wg (by omega) (b_Wl ?_))
  have f1 : b_fr W_gat M (b_up N 130 (N 7 6) b) := b_frA f rfl
  refine b_We (fa _ 3 f1 (by omega) (by omega)) ?_
  rw [z7 _ 130 _ _ (by decide)]
  refine b_Wg (by omega) (b_Wl ?_)
  have f2 : b_fr W_gat M (b_up (b_up N 130 (N 7 6) b) 131 (N 7 6) (M 126 (10 * b + 3))) := b_frA f1 rfl
  refine b_We (fa _ 4 f2 (by omega) (by omega)) ?_
  rw [z7 _ 131 _ _ (by decide), z7 _ 130 _ _ (by decide)]
  refine b_Wg (by omega) (b_Wl ?_)
  have f3 := b_frA (c := 132) (i := N 7 6) (x := M 126 (10 * b + 4)) f2 rfl
  refine b_We (fa _ 8 f3 (by omega) (by omega)) ?_
  rw [z7 _ 132 _ _ (by decide), z7 _ 131 _ _ (by decide), z7 _ 130 _ _ (by decide)]
  refine b_Wg (by omega) (b_Wl ?_)
  have f4 := b_frA (c := 133) (i := N 7 6) (x := M 126 (10 * b + 8)) f3 rfl
  refine b_We (fa _ 0 f4 (by omega) (by omega)) ?_
  rw [show 10 * b + 0 = 10 * b by omega]
  refine b_We (go _ _ f4 hr.1) ?_
  rw [z7 _ 133 _ _ (by decide), z7 _ 132 _ _ (by decide), z7 _ 131 _ _ (by decide), z7 _ 130 _ _ (by decide)]
  refine b_Wg (by omega) (b_Wl ?_)
  have f5 := b_frA (c := 134) (i := N 7 6) (x := g_lb M d (M 126 (10 * b))) f4 rfl
  refine b_We (fa _ 1 f5 (by omega) (by omega)) ?_
  refine b_We (go _ _ f5 hr.2.1) ?_
  rw [z7 _ 134 _ _ (by decide), z7 _ 133 _ _ (by decide), z7 _ 132 _ _ (by decide), z7 _ 131 _ _ (by decide), z7 _ 130 _ _ (by decide)]
  refine b_Wg (by omega) (b_Wl ?_)
  rw [z7 _ 135 _ _ (by decide), z7 _ 134 _ _ (by decide), z7 _ 133 _ _ (by decide), z7 _ 132 _ _ (by decide), z7 _ 131 _ _ (by decide), z7 _ 130 _ _ (by decide)]
  exact b_Wg (by omega) (b_Wl (b_Ws rfl))
/-- the LINKS that are gathered, in order -/
def G_ls (M : bM) (d l n : Int) (N : bM) : Prop := (0 ≤ N 7 6 ∧ N 7 6 ≤ n) ∧ (∀ c, 0 ≤ c → c < N 7 6 → (g_lk M l (N 130 c) ∧ N 130 c < n) ∧ N 131 c = g_B M (N 130 c) ∧ N 132 c = g_F M (N 130 c) ∧ N 133 c = g_p M (N 130 c) ∧ N 134 c = g_lb M d (g_G M (N 130 c)) ∧ N 135 c = g_lb M d (g_T M (N 130 c))) ∧ (∀ c e, 0 ≤ c → c < e → e < N 7 6 → N 130 c < N 130 e) ∧ ∀ b, b < n → g_lk M l b → ∃ c, (0 ≤ c ∧ c < N 7 6) ∧ N 130 c = b
theorem t_ga60 {M N : bM} {d l : Int} (hG : G_all M d) (hl : 0 ≤ l ∧ l < M 3 0) (f : b_fr W_gat M N) (h0 : N 7 6 = 0) : b_wp (b_loop (fun t : Int × bM => F_X2_gather_s60 (M 91 l) t.1 t.2) (0, N)) (fun P => b_fr W_gat M P ∧ (P 7 3 = N 7 3 ∧ P 7 4 = N 7 4 ∧ P 7 13 = N 7 13) ∧ G_ls M d l (M 6 0) P) := by
  have b1 := hG.1.2.2.2.2.2.2.2.2
  have l1 := hG.1.2.2.1.1
  have l2 : M 174 = M 91 := hG.1.2.2.1.2.1.2.2.2.2.1
  refine b_loop_ind (I := fun t : Int × bM => (0 ≤ t.1 ∧ t.1 ≤ M 6 0) ∧ b_fr W_gat M t.2 ∧ (t.2 7 3 = N 7 3 ∧ t.2 7 4 = N 7 4 ∧ t.2 7 13 = N 7 13) ∧ G_ls M d l t.1 t.2) (fun t => (M 6 0 - t.1).toNat) ?_ (0, N) ⟨by dsimp only; have := b1.2.1; omega, f, ⟨rfl, rfl, rfl⟩, ?_⟩
  · intro ⟨b, Q⟩ ⟨h1, h2, h3, h4⟩
    dsimp only at h1 h2 h3 h4 ⊢
    have k6 : Q 6 0 = M 6 0 := h2 6 0 (by decide)
    have k3 : Q 3 0 = M 3 0 := h2 3 0 (by decide)
    have b2 := b1.2
    unfold F_X2_gather_s60
    rw [k6]
    by_cases q : M 6 0 ≤ b
    · refine b_Wt q (b_Ws ⟨h2, h3, ?_⟩)
      rw [show b = M 6 0 by omega] at h4
      exact h4
    · have hr := G_rr hG (b := b) (by omega)
      have skip : ¬ g_lk M l b → ((0 ≤ b + 1 ∧ b + 1 ≤ M 6 0) ∧ b_fr W_gat M Q ∧ (Q 7 3 = N 7 3 ∧ Q 7 4 = N 7 4 ∧ Q 7 13 = N 7 13) ∧ G_ls M d l (b + 1) Q) ∧ (M 6 0 - (b + 1)).toNat < (M 6 0 - b).toNat := by
        intro z
        obtain ⟨g1, g2, g3, g4⟩ := h4
        refine ⟨⟨by omega, h2, h3, by omega, fun c c0 c1 => ?_, g3, fun b' hb' w => ?_⟩, by omega⟩
        · have := g2 c c0 c1
          exact ⟨⟨this.1.1, by have := this.1.2; omega⟩, this.2⟩
        · by_cases qb : b' = b
          · subst qb; exact absurd w z
          · exact g4 b' (by omega) w
      refine b_Wf q (b_We (e_X4_fact (by omega) (by omega) (by omega)) ?_)
      rw [h2 126 _ rfl]
      refine b_We (e_X5_isAmong (by omega)) ?_
      rw [k3, ← l2]
      refine b_Wi (fun q1 => b_Wg (by omega) (b_Ws (skip (fun z => (b_01_0.mp q1) ⟨by have h9 : M 126 (10 * b + 2) ≠ -1 := z.2.1; omega, by omega, z.2.2.1⟩)))) (fun q1 => b_We (e_X4_fact (by omega) (by omega) (by omega)) ?_)
      rw [h2 126 _ rfl]
      have q1' := Decidable.of_not_not (fun z => q1 (b_01_0.mpr z))
      refine b_Wi (fun q2 => b_Wg (by omega) (b_Ws (skip (fun z => z.2.2.2 q2)))) (fun q2 => ?_)
      have hlk : g_lk M l b := ⟨by omega, (show M 126 (10 * b + 2) ≠ -1 by have := q1'.1; omega), q1'.2.2, q2⟩
      obtain ⟨g1, g2, g3, g4⟩ := h4
      have hn30 : Q 7 6 < 30 := by
        have := b1.2.2
        omega
      refine b_Wb (b_wp_m (fun P y => ?_) (t_addLink hG h2 (b := b) (by omega) ⟨g1.1, hn30⟩))
      have v : ∀ c, c ≠ Q 7 6 → P 130 c = Q 130 c ∧ P 131 c = Q 131 c ∧ P 132 c = Q 132 c ∧ P 133 c = Q 133 c ∧ P 134 c = Q 134 c ∧ P 135 c = Q 135 c := by
        intro c hc
        subst y
        simp [b_up, hc]
      have w : P 130 (Q 7 6) = b ∧ P 131 (Q 7 6) = g_B M b ∧ P 132 (Q 7 6) = g_F M b ∧ P 133 (Q 7 6) = g_p M b ∧ P 134 (Q 7 6) = g_lb M d (g_G M b) ∧ P 135 (Q 7 6) = g_lb M d (g_T M b) ∧ P 7 6 = Q 7 6 + 1 ∧ P 7 3 = Q 7 3 ∧ P 7 4 = Q 7 4 ∧ P 7 13 = Q 7 13 := by
        subst y
        simp [b_up]
      have fP : b_fr W_gat M P := by
        subst y
        exact b_frF (b_frA (b_frA (b_frA (b_frA (b_frA (b_frA h2 rfl) rfl) rfl) rfl) rfl) rfl) (by decide)
      clear y
      obtain ⟨w0, w1, w2, w3, w4, w5, w6, w7, w8, w9⟩ := w
      refine b_Wg (by omega) (b_Ws ⟨⟨by dsimp only; omega, fP, ⟨by dsimp only; omega, by dsimp only; omega, by dsimp only; omega⟩, ?_⟩, by dsimp only; omega⟩)
      dsimp only
      refine ⟨by omega, fun c c0 c1 => ?_, fun c e c0 ce e1 => ?_, fun b' hb' wl => ?_⟩
      · by_cases qc : c = Q 7 6
        · rw [qc, w0, w1, w2, w3, w4, w5]
          exact ⟨⟨hlk, by omega⟩, rfl, rfl, rfl, rfl, rfl⟩
        · obtain ⟨u0, u1, u2, u3, u4, u5⟩ := v c qc
          have := g2 c c0 (by omega)
          rw [u0, u1, u2, u3, u4, u5]
          exact ⟨⟨this.1.1, by have := this.1.2; omega⟩, this.2⟩
      · have v1 := (v c (by omega)).1
        by_cases qe : e = Q 7 6
        · rw [qe, w0, v1]
          exact (g2 c c0 (by omega)).1.2
        · rw [v1, (v e qe).1]
          exact g3 c e c0 ce (by omega)
      · by_cases qb : b' = b
        · exact ⟨Q 7 6, by omega, by rw [w0]; exact qb.symm⟩
        · obtain ⟨c, hc, e⟩ := g4 b' (by omega) wl
          exact ⟨c, by omega, by rw [(v c (by omega)).1]; exact e⟩
  · dsimp only
    refine ⟨by omega, fun c c0 c1 => by omega, fun c e c0 ce e1 => by omega, fun b hb w => ?_⟩
    have := w.1
    omega
