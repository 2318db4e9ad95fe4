def x_all (F0 : Int → Int) (b v0 p0 q0 v1 p1 q1 v2 p2 q2 a z : Int) : Int → Int := x_wsp (x_wr (x_wr (x_wr (fun j => if j = 10 * b + 9 then 0 else F0 j) b 0 v0 p0 q0) b 1 v1 p1 q1) b 2 v2 p2 q2) b a z
theorem x_all_v {F0 : Int → Int} {b v0 p0 q0 v1 p1 q1 v2 p2 q2 a z : Int} : x_all F0 b v0 p0 q0 v1 p1 q1 v2 p2 q2 a z (10 * b) = v0 ∧ x_all F0 b v0 p0 q0 v1 p1 q1 v2 p2 q2 a z (10 * b + 1) = v1 ∧ x_all F0 b v0 p0 q0 v1 p1 q1 v2 p2 q2 a z (10 * b + 2) = v2 ∧ x_all F0 b v0 p0 q0 v1 p1 q1 v2 p2 q2 a z (10 * b + 3) = (if z < a then 0 else a) ∧ x_all F0 b v0 p0 q0 v1 p1 q1 v2 p2 q2 a z (10 * b + 4) = (if z < a then 9999 else z) ∧ x_all F0 b v0 p0 q0 v1 p1 q1 v2 p2 q2 a z (10 * b + 5) = p0 ∧ x_all F0 b v0 p0 q0 v1 p1 q1 v2 p2 q2 a z (10 * b + 6) = p1 ∧ x_all F0 b v0 p0 q0 v1 p1 q1 v2 p2 q2 a z (10 * b + 7) = p2 ∧ x_all F0 b v0 p0 q0 v1 p1 q1 v2 p2 q2 a z (10 * b + 9) = (if z < a then i_or (x_qb (x_qb (x_qb 0 0 q0) 1 q1) 2 q2) 8 else x_qb (x_qb (x_qb 0 0 q0) 1 q1) 2 q2) := by
  have e9 : x_wr (x_wr (x_wr (fun j => if j = 10 * b + 9 then 0 else F0 j) b 0 v0 p0 q0) b 1 v1 p1 q1) b 2 v2 p2 q2 (10 * b + 9) = x_qb (x_qb (x_qb 0 0 q0) 1 q1) 2 q2 := by
    have g1 : x_wr (fun j => if j = 10 * b + 9 then 0 else F0 j) b 0 v0 p0 q0 (10 * b + 9) = x_qb 0 0 q0 := by
      unfold x_wr x_qb
      dsimp only
      rw [if_pos rfl]
      repeat' split
      all_goals first | rfl | omega
    have g2 : ∀ F : Int → Int, x_wr F b 1 v1 p1 q1 (10 * b + 9) = x_qb (F (10 * b + 9)) 1 q1 := by
      intro F
      unfold x_wr x_qb
      repeat' split
      all_goals first | rfl | omega
    have g3 : ∀ F : Int → Int, x_wr F b 2 v2 p2 q2 (10 * b + 9) = x_qb (F (10 * b + 9)) 2 q2 := by
      intro F
      unfold x_wr x_qb
      repeat' split
      all_goals first | rfl | omega
    rw [g3, g2, g1]
  unfold x_all
  refine ⟨?_, ?_, ?_, ?_, ?_, ?_, ?_, ?_, ?_⟩
  · unfold x_wsp x_wr; repeat' split
    all_goals first | rfl | omega
  · unfold x_wsp x_wr; repeat' split
    all_goals first | rfl | omega
  · unfold x_wsp x_wr; repeat' split
    all_goals first | rfl | omega
  · unfold x_wsp x_wr; repeat' split
    all_goals first | rfl | omega
  · unfold x_wsp x_wr; repeat' split
    all_goals first | rfl | omega
  · unfold x_wsp x_wr; repeat' split
    all_goals first | rfl | omega
  · unfold x_wsp x_wr; repeat' split
    all_goals first | rfl | omega
  · unfold x_wsp x_wr; repeat' split
    all_goals first | rfl | omega
  · unfold x_wsp
    rw [e9]
    by_cases hz : z < a
    · rw [if_pos hz, if_pos hz, if_pos rfl]
    · rw [if_neg hz, if_neg hz, if_neg (by omega), if_neg (by omega)]
theorem x_all_o {F0 : Int → Int} {b v0 p0 q0 v1 p1 q1 v2 p2 q2 a z j : Int} (h : j < 10 * b ∨ 10 * b + 9 < j) : x_all F0 b v0 p0 q0 v1 p1 q1 v2 p2 q2 a z j = F0 j := by
  unfold x_all x_wsp x_wr
  dsimp only
  rw [if_neg (show ¬ j = 10 * b + 9 by omega), if_neg (show ¬ j = 10 * b + 4 by omega), if_neg (show ¬ j = 10 * b + 3 by omega)]
  rw [if_neg (show ¬ (j = 10 * b + 9 ∧ q2 = 1) by omega), if_neg (show ¬ j = 10 * b + 5 + 2 by omega), if_neg (show ¬ j = 10 * b + 2 by omega)]
  rw [if_neg (show ¬ (j = 10 * b + 9 ∧ q1 = 1) by omega), if_neg (show ¬ j = 10 * b + 5 + 1 by omega), if_neg (show ¬ j = 10 * b + 1 by omega)]
  rw [if_neg (show ¬ (j = 10 * b + 9 ∧ q0 = 1) by omega), if_neg (show ¬ j = 10 * b + 5 + 0 by omega), if_neg (show ¬ j = 10 * b + 0 by omega), if_neg (show ¬ j = 10 * b + 9 by omega)]
  split
  · rfl
  · rw [if_neg (show ¬ j = 10 * b + 4 by omega), if_neg (show ¬ j = 10 * b + 3 by omega)]
theorem t_know1 {M N : bM} {d b : Int} (hB : E_b M d) (hN : E_n M N) (h3 : M 3 0 ≤ 60) (hb : 0 ≤ b ∧ b < 30) (hl : b < N 6 0) : b_wp (F_X4_know_s106 b N) (fun r => ∃ P, r = Sum.inl (b + 1, P) ∧ E_n M P ∧ Ef M d b (P 126) ∧ ∀ j, (j < 10 * b ∨ 10 * b + 9 < j) → P 126 j = N 126 j) := by
  unfold F_X4_know_s106
  refine b_Wf (by omega) (b_Wb (b_wp_m (fun N1 y => ?_) (t_fw (b := b) hB hN)))
  obtain ⟨y1, y2, y3⟩ := y
  refine b_Wg (by omega) (b_Wl (b_Wb ?_))
  generalize hN2 : b_up N1 126 (b * 10 + 9) 0 = N2
  have f2 : ∀ c j, c ≠ 126 → N2 c j = N1 c j := fun c j hc => by subst hN2; exact b_upc hc
  have g2 : N2 126 = fun j => if j = 10 * b + 9 then 0 else N 126 j := by
    funext j
    subst hN2
    rw [b_upJ, y2, show b * 10 + 9 = 10 * b + 9 by omega]
  have tr : ∀ R : bM, (∀ c j, c ≠ 126 → c ≠ 129 → R c j = N1 c j) → E_n M R ∧ E_w M d b (M 5 0) (R 128) (R 6 11) := by
    intro R hR
    refine ⟨fun c j c1 c2 c3 c4 => by rw [hR c j c1 c3]; exact y1 c j c1 c2 c3 c4, ?_⟩
    rw [hR 6 11 (by decide) (by decide), show R 128 = N1 128 from funext fun j => hR 128 j (by decide) (by decide)]
    exact y3
  have t2 := tr N2 (fun c j c1 _ => f2 c j c1)
  refine b_Wloop ?_
  dsimp only
  unfold F_X4_know_s134
  refine b_Wf (by omega) (b_Wg (by omega) (b_Wb (b_wp_m (fun R1 z1 => ?_) (t_dec hB t2.1 h3 (show (0 : Int) ≤ 0 ∧ (0 : Int) < 3 by omega) hb t2.2))))
  obtain ⟨r1, v0, p0, q0, s1, u1⟩ := z1
  have fr1 : ∀ c j, c ≠ 126 → c ≠ 129 → R1 c j = N1 c j := fun c j c1 c2 => by rw [r1 c j c1 c2]; exact f2 c j c1
  have t3 := tr R1 fr1
  refine b_Wg (by omega) (b_Ws ?_)
  show b_wp _ _
  refine b_Wloop ?_
  dsimp only
  refine b_Wf (by omega) (b_Wg (by omega) (b_Wb (b_wp_m (fun R2 z2 => ?_) (t_dec hB t3.1 h3 (show (0 : Int) ≤ 0 + 1 ∧ (0 : Int) + 1 < 3 by omega) hb t3.2))))
  obtain ⟨r2, v1, p1, q1, s2, u2⟩ := z2
  have fr2 : ∀ c j, c ≠ 126 → c ≠ 129 → R2 c j = N1 c j := fun c j c1 c2 => by rw [r2 c j c1 c2]; exact fr1 c j c1 c2
  have t4 := tr R2 fr2
  refine b_Wg (by omega) (b_Ws ?_)
  show b_wp _ _
  refine b_Wloop ?_
  dsimp only
  refine b_Wf (by omega) (b_Wg (by omega) (b_Wb (b_wp_m (fun R3 z3 => ?_) (t_dec hB t4.1 h3 (show (0 : Int) ≤ 0 + 1 + 1 ∧ (0 : Int) + 1 + 1 < 3 by omega) hb t4.2))))
  obtain ⟨r3, v2, p2, q2, s3, u3⟩ := z3
  have fr3 : ∀ c j, c ≠ 126 → c ≠ 129 → R3 c j = N1 c j := fun c j c1 c2 => by rw [r3 c j c1 c2]; exact fr2 c j c1 c2
  have t5 := tr R3 fr3
  refine b_Wg (by omega) (b_Ws ?_)
  show b_wp _ _
  refine b_Wloop ?_
  dsimp only
  refine b_Wt (by omega) (b_Ws ?_)
  unfold F_X4_know_b154
  refine b_Wg (by omega) (b_Wb (b_wp_m (fun R4 z4 => ?_) (t_fsp hB t5.1 hb t5.2)))
  obtain ⟨r4, u4⟩ := z4
  rw [u3, u2, u1, g2] at u4
  have hv := x_all_v (F0 := N 126) (b := b) (v0 := v0) (p0 := p0) (q0 := q0) (v1 := v1) (p1 := p1) (q1 := q1) (v2 := v2) (p2 := p2) (q2 := q2) (a := (x_sp M d b).1) (z := (x_sp M d b).2)
  have ho := fun j => x_all_o (F0 := N 126) (b := b) (v0 := v0) (p0 := p0) (q0 := q0) (v1 := v1) (p1 := p1) (q1 := q1) (v2 := v2) (p2 := p2) (q2 := q2) (a := (x_sp M d b).1) (z := (x_sp M d b).2) (j := j)
  have u5 : R4 126 = x_all (N 126) b v0 p0 q0 v1 p1 q1 v2 p2 q2 (x_sp M d b).1 (x_sp M d b).2 := u4
  rw [← u5] at hv ho
  obtain ⟨w0, w1, w2, w3, w4, w5, w6, w7, w9⟩ := hv
  refine b_Wg (by omega) (b_Wl (b_Wg (by omega) (b_Ws ⟨_, rfl, fun c j c1 c2 c3 c4 => ?_, ?_, fun j hj => ?_⟩)))
  · rw [b_upc c1, r4 c j c1]
    exact t5.1 c j c1 c2 c3 c4
  · refine ⟨v0, p0, q0, v1, p1, q1, v2, p2, q2, s1, s2, s3, ?_, ?_, ?_, ?_, ?_, ?_, ?_, ?_, ?_, ?_⟩
    · rw [b_upi (by omega)]; exact w0
    · rw [b_upi (by omega)]; exact w1
    · rw [b_upi (by omega)]; exact w2
    · rw [b_upi (by omega)]; exact w3
    · rw [b_upi (by omega)]; exact w4
    · rw [b_upi (by omega)]; exact w5
    · rw [b_upi (by omega)]; exact w6
    · rw [b_upi (by omega)]; exact w7
    · rw [show 10 * b + 8 = b * 10 + 8 by omega, b_ups, show b * 10 + 5 + 0 = 10 * b + 5 by omega, show b * 10 + 5 + 1 = 10 * b + 6 by omega, show b * 10 + 5 + 2 = 10 * b + 7 by omega, w5, w6, w7]
    · rw [b_upi (by omega)]; exact w9
  · rw [b_upi (by omega)]
    exact ho j hj
theorem t_know2 {M : bM} {d : Int} (hB : E_b M d) (h3 : M 3 0 ≤ 60) (h6 : 0 ≤ M 6 0 ∧ M 6 0 ≤ 30) : b_wp (F_X4_know_b104 M) (fun N => E_n M N ∧ ∀ b, 0 ≤ b → b < M 6 0 → Ef M d b (N 126)) := by
  unfold F_X4_know_b104 F_X4_know_b225
  refine b_Wb (b_loop_ind (I := fun t : Int × bM => (0 ≤ t.1 ∧ t.1 ≤ M 6 0) ∧ E_n M t.2 ∧ ∀ b, 0 ≤ b → b < t.1 → Ef M d b (t.2 126)) (fun t => (M 6 0 - t.1).toNat) ?_ (0, M) ⟨by dsimp only; omega, fun _ _ _ _ _ _ => rfl, fun b b0 b1 => by dsimp only at b1; omega⟩)
  intro ⟨b, N⟩ ⟨h1, h2, h4⟩
  dsimp only at h1 h2 h4 ⊢
  have n60 := h2 6 0 (by decide) (by decide) (by decide) (by decide)
  by_cases q : M 6 0 ≤ b
  · unfold F_X4_know_s106
    exact b_Wt (by omega) (b_Ws (b_Ws ⟨h2, fun b' b0 b1 => h4 b' b0 (by omega)⟩))
  · refine b_wp_m (fun r y => ?_) (t_know1 hB h2 h3 (b := b) (by omega) (by omega))
    obtain ⟨P, rfl, y1, y2, y3⟩ := y
    refine ⟨⟨by dsimp only; omega, y1, fun b' b0 b1 => ?_⟩, by dsimp only; omega⟩
    dsimp only at b1 ⊢
    by_cases qb : b' = b
    · subst qb; exact y2
    · obtain ⟨v0, p0, q0, v1, p1, q1, v2, p2, q2, f0, f1, f2, f3⟩ := h4 b' b0 (by omega)
      refine ⟨v0, p0, q0, v1, p1, q1, v2, p2, q2, f0, f1, f2, ?_⟩
      rw [y3 (10 * b') (by omega), y3 (10 * b' + 1) (by omega), y3 (10 * b' + 2) (by omega), y3 (10 * b' + 3) (by omega), y3 (10 * b' + 4) (by omega), y3 (10 * b' + 5) (by omega), y3 (10 * b' + 6) (by omega), y3 (10 * b' + 7) (by omega), y3 (10 * b' + 8) (by omega), y3 (10 * b' + 9) (by omega)]
      exact f3
/-- what the class keeps of the day asked last -/
def Evc (M : bM) (d : Int) : Prop := (0 ≤ d ∧ d ≤ 9999) ∧ M 6 7 = x_act M d ∧ (∀ k, 0 ≤ k → k < M 5 0 → (M 127 k = 0 ∨ M 127 k = 1) ∧ (M 127 k = 1 ↔ x_C M d k)) ∧ ∀ b, 0 ≤ b → b < M 6 0 → Ef M d b (M 126)
def S_ev : bW := [(6, some 0), (6, some 5), (6, some 6), (6, some 7), (126, none), (127, none), (5, some 0), (11, some 13), (11, some 35), (11, some 53), (11, some 54), (163, none), (164, none), (165, none), (166, none), (167, none), (170, none), (171, none), (182, none), (183, none), (184, none), (185, none), (187, none), (188, none), (189, none), (190, none), (191, none), (192, none), (193, none), (194, none), (195, none), (196, none), (197, none), (198, none), (199, none), (200, none), (201, none), (202, none), (203, none), (204, none), (205, none), (206, none), (207, none)]
def R_ev (M : bM) : Prop := M 6 5 = 0 ∨ (M 6 5 = 1 ∧ Evc M (M 6 6))
theorem S_ev_ss {M N : bM} (h : ∀ c i, b_ins S_ev c i = true → N c i = M c i) : SS M N := fun c i hi => h c i (b_sbs_ins (by decide +kernel : b_sbs S_spec S_ev = true) hi)
theorem Evc_c {M N : bM} {d : Int} (hs : SS M N) (h0 : N 6 0 = M 6 0) (h7 : N 6 7 = M 6 7) (h126 : N 126 = M 126) (h127 : N 127 = M 127) (h : Evc M d) : Evc N d := by
  obtain ⟨a1, a2, a3, a4⟩ := h
  refine ⟨a1, by rw [h7, sp_act hs]; exact a2, fun k k0 k1 => ?_, fun b b0 b1 => ?_⟩
  · rw [hs 5 0 rfl] at k1
    have := a3 k k0 k1
    rw [h127]
    refine ⟨this.1, this.2.trans ?_⟩
    unfold x_C
    rw [sp_cant hs, sp_c hs 199 (fun _ => rfl)]
  · rw [h0] at b1
    rw [h126]
    exact sp_Ef hs (a4 b b0 b1)
theorem R_ev_k {M N : bM} (h : ∀ c i, b_ins S_ev c i = true → N c i = M c i) (hR : R_ev M) : R_ev N := by
  unfold R_ev at hR ⊢
  rw [h 6 5 rfl, h 6 6 rfl]
  rcases hR with q | ⟨q, q2⟩
  · exact Or.inl q
  · exact Or.inr ⟨q, Evc_c (S_ev_ss h) (h 6 0 rfl) (h 6 7 rfl) (funext fun i => h 126 i rfl) (funext fun i => h 127 i rfl) q2⟩
theorem R_wts_k {M N : bM} (hs : SS M N) (h4 : N 4 0 = M 4 0) (h124 : N 124 = M 124) (hR : R_wts M) : R_wts N := by
  unfold R_wts at hR ⊢
  rw [hs 5 0 rfl, h4, h124, sp_wt hs]
  exact hR
/-- all that evidence rests on -/
def E_all (M : bM) : Prop := R_ppl M ∧ R_know M ∧ R_lots M ∧ R_sign M ∧ R_pap M ∧ R_pages M ∧ R_rules M ∧ R_wts M ∧ R_burnt M
theorem E_all_k {W : bW} {M N : bM} (h : b_fr W M N) (d1 : b_dis W S_ppl = true) (d2 : b_dis W S_know = true) (d3 : b_dis W S_lots = true) (d4 : b_dis W S_sign = true) (d5 : b_dis W S_pap = true) (d6 : b_dis W S_pages = true) (d7 : b_dis W S_rules = true) (d8 : b_dis W S_spec = true) (d9 : b_dis W [(4, some 0), (124, none)] = true) (d10 : b_dis W S_burnt = true) (hE : E_all M) : E_all N := by
  obtain ⟨e1, e2, e3, e4, e5, e6, e7, e8, e9⟩ := hE
  have k := b_kp1 h d9
  exact ⟨R_ppl_k (b_kp1 h d1) e1, R_know_k (b_kp1 h d2) e2, R_lots_k (b_kp1 h d3) e3, R_sign_k (b_kp1 h d4) e4, R_pap_k (b_kp1 h d5) e5, R_pages_k (b_kp1 h d6) e6, R_rules_k (b_kp1 h d7) e7, R_wts_k (b_kp1 h d8) (k 4 0 rfl) (funext fun i => k 124 i rfl) e8, R_burnt_k (b_kp1 h d10) e9⟩
def W_evk : bW := [(6, some 5), (6, some 6), (6, some 7), (6, some 11), (126, none), (127, none), (128, none), (129, none)]
theorem t_ev {M : bM} {d : Int} (hE : E_all M) (hV : R_ev M) (hd : 0 ≤ d ∧ d ≤ 9999) : b_wp (F_X4_know d M) (fun N => b_fr W_X4_know M N ∧ E_all N ∧ R_ev N ∧ Kn N d ∧ Evc N d) := by
  refine b_wl_wp (w_X4_know b_fr_refl) ?_
  unfold F_X4_know
  have hE0 := hE
  obtain ⟨e1, e2, e3, e4, e5, e6, e7, e8, e9⟩ := hE0
  refine b_Wb (b_wp_m (fun N w => ?_) (t_know e1 e2 hd.1))
  obtain ⟨w1, w2, w3, w4⟩ := w
  have hE1 : E_all N := by
    have k := b_kp1 (S := [(4, some 0), (124, none)]) w1 (by decide +kernel)
    exact ⟨w2, w3, R_lots_k (b_kp1 w1 (by decide +kernel)) e3, R_sign_k (b_kp1 w1 (by decide +kernel)) e4, R_pap_k (b_kp1 w1 (by decide +kernel)) e5, R_pages_k (b_kp1 w1 (by decide +kernel)) e6, R_rules_k (b_kp1 w1 (by decide +kernel)) e7, R_wts_k (b_kp1 w1 (by decide +kernel)) (k 4 0 rfl) (funext fun i => k 124 i rfl) e8, R_burnt_k (b_kp1 w1 (by decide +kernel)) e9⟩
  have hV1 : R_ev N := R_ev_k (b_kp1 w1 (by decide +kernel)) hV
  have new : b_wp (F_X4_know_b24 d N) (fun P => E_all P ∧ R_ev P ∧ Kn P d ∧ Evc P d) := by
    clear hV hV1 hE e1 e2 e3 e4 e5 e6 e7 e8 e9 w1
    unfold F_X4_know_b24
    refine b_Wl (b_Wl ?_)
    generalize hM4 : b_up (b_up N 6 5 1) 6 6 d = M4
    have f4 : b_fr W_evk N M4 := by subst hM4; exact b_frF (b_frF b_fr_refl (by decide)) (by decide)
    have hE4 : E_all M4 := E_all_k f4 (by decide +kernel) (by decide +kernel) (by decide +kernel) (by decide +kernel) (by decide +kernel) (by decide +kernel) (by decide +kernel) (by decide +kernel) (by decide +kernel) (by decide +kernel) hE1
    refine b_We (e_X1_numberInForce hE4.2.2.2.2.2.2.1) (b_Wl ?_)
    generalize hM6 : b_up M4 6 7 (x_act M4 d) = M6
    have f6 : b_fr W_evk N M6 := by subst hM6; exact b_frF f4 (by decide)
    have f46 : b_fr W_evk M4 M6 := by subst hM6; exact b_frF b_fr_refl (by decide)
    have hE6 : E_all M6 := E_all_k f6 (by decide +kernel) (by decide +kernel) (by decide +kernel) (by decide +kernel) (by decide +kernel) (by decide +kernel) (by decide +kernel) (by decide +kernel) (by decide +kernel) (by decide +kernel) hE1
    have ss46 : SS M4 M6 := b_kp1 f46 (by decide +kernel)
    have a5 : M6 6 5 = 1 := by subst hM6 hM4; simp [b_up]
    have a6 : M6 6 6 = d := by subst hM6 hM4; simp [b_up]
    have a7 : M6 6 7 = x_act M6 d := by rw [sp_act ss46]; subst hM6; rw [b_ups]
    have hK6 : Kn M6 d := by
      have k := b_kp1 (S := S_know) f6 (by decide +kernel)
      exact Kn_c w4 (k 2 0 rfl) (k 11 13 rfl) (funext fun i => k 81 i rfl) (funext fun i => k 82 i rfl) (funext fun i => k 83 i rfl) (funext fun i => k 84 i rfl) (funext fun i => k 164 i rfl) (funext fun i => k 165 i rfl) (funext fun i => k 166 i rfl) (funext fun i => k 167 i rfl)
    clear hM4 hM6 f4 f46 ss46 hE4 w4 f6 hE1 w2 w3
    have s1 := hE6.2.2.2.1.1
    refine b_Wb (b_wp_m (fun N7 y => ?_) (b_loop_ind (P := fun N7 : bM => (∀ c j, c ≠ 127 → N7 c j = M6 c j) ∧ ∀ k, 0 ≤ k → k < M6 5 0 → (N7 127 k = 0 ∨ N7 127 k = 1) ∧ (N7 127 k = 1 ↔ x_C M6 d k)) (I := fun t : Int × bM => (0 ≤ t.1 ∧ t.1 ≤ M6 5 0) ∧ (∀ c j, c ≠ 127 → t.2 c j = M6 c j) ∧ ∀ k, 0 ≤ k → k < t.1 → (t.2 127 k = 0 ∨ t.2 127 k = 1) ∧ (t.2 127 k = 1 ↔ x_C M6 d k)) (fun t => (M6 5 0 - t.1).toNat) ?_ (0, M6) ⟨by dsimp only; omega, fun _ _ _ => rfl, fun k k0 k1 => by dsimp only at k1; omega⟩))
    · obtain ⟨y1, y2⟩ := y
      have f7 : b_fr [(127, none)] M6 N7 := fun c i hi => y1 c i (fun q => by subst q; revert hi; simp [b_ins])
      have hE7 : E_all N7 := E_all_k f7 (by decide +kernel) (by decide +kernel) (by decide +kernel) (by decide +kernel) (by decide +kernel) (by decide +kernel) (by decide +kernel) (by decide +kernel) (by decide +kernel) (by decide +kernel) hE6
      have ss7 : SS M6 N7 := b_kp1 f7 (by decide +kernel)
      have hK7 : Kn N7 d := by
        have k := b_kp1 (S := S_know) f7 (by decide +kernel)
        exact Kn_c hK6 (k 2 0 rfl) (k 11 13 rfl) (funext fun i => k 81 i rfl) (funext fun i => k 82 i rfl) (funext fun i => k 83 i rfl) (funext fun i => k 84 i rfl) (funext fun i => k 164 i rfl) (funext fun i => k 165 i rfl) (funext fun i => k 166 i rfl) (funext fun i => k 167 i rfl)
      have b7 : N7 6 7 = x_act N7 d := by rw [y1 6 7 (by decide), sp_act ss7]; exact a7
      have b8 : ∀ k, 0 ≤ k → k < N7 5 0 → (N7 127 k = 0 ∨ N7 127 k = 1) ∧ (N7 127 k = 1 ↔ x_C N7 d k) := by
        intro k k0 k1
        rw [ss7 5 0 rfl] at k1
        have := y2 k k0 k1
        refine ⟨this.1, this.2.trans ?_⟩
        unfold x_C
        rw [sp_cant ss7, sp_c ss7 199 (fun _ => rfl)]
      have hB : E_b N7 d := ⟨hE7.1, hK7, hE7.2.2.2.1, hE7.2.2.2.2.1, hE7.2.2.2.2.2.2.1, hE7.2.2.2.2.2.2.2.1, b7, b8⟩
      have l1 := hE7.2.2.1.1
      have u1 := hE7.2.2.2.2.2.2.2.2
      refine b_wp_m (fun P z => ?_) (t_know2 hB (by omega) ⟨u1.2.1, u1.2.2⟩)
      obtain ⟨z1, z2⟩ := z
      have f8 : b_fr [(6, some 11), (126, none), (128, none), (129, none)] N7 P := fun c i hi => z1 c i (fun q => by subst q; revert hi; simp [b_ins]) (fun q => by subst q; revert hi; simp [b_ins]) (fun q => by subst q; revert hi; simp [b_ins]) (fun q => by obtain ⟨rfl, rfl⟩ := q; revert hi; simp [b_ins])
      have hE8 : E_all P := E_all_k f8 (by decide +kernel) (by decide +kernel) (by decide +kernel) (by decide +kernel) (by decide +kernel) (by decide +kernel) (by decide +kernel) (by decide +kernel) (by decide +kernel) (by decide +kernel) hE7
      have ss8 : SS N7 P := b_kp1 f8 (by decide +kernel)
      have hK8 : Kn P d := by
        have k := b_kp1 (S := S_know) f8 (by decide +kernel)
        exact Kn_c hK7 (k 2 0 rfl) (k 11 13 rfl) (funext fun i => k 81 i rfl) (funext fun i => k 82 i rfl) (funext fun i => k 83 i rfl) (funext fun i => k 84 i rfl) (funext fun i => k 164 i rfl) (funext fun i => k 165 i rfl) (funext fun i => k 166 i rfl) (funext fun i => k 167 i rfl)
      have hv : Evc P d := by
        refine ⟨hd, ?_, fun k k0 k1 => ?_, fun b b0 b1 => ?_⟩
        · rw [sp_act ss8, z1 6 7 (by decide) (by decide) (by decide) (by decide)]
          exact b7
        · rw [ss8 5 0 rfl] at k1
          have := b8 k k0 k1
          rw [z1 127 k (by decide) (by decide) (by decide) (by omega)]
          refine ⟨this.1, this.2.trans ?_⟩
          unfold x_C
          rw [sp_cant ss8, sp_c ss8 199 (fun _ => rfl)]
        · rw [z1 6 0 (by decide) (by decide) (by decide) (by decide)] at b1
          exact sp_Ef ss8 (z2 b b0 b1)
      refine ⟨hE8, Or.inr ⟨?_, ?_⟩, hK8, hv⟩
      · rw [z1 6 5 (by decide) (by decide) (by decide) (by decide), y1 6 5 (by decide)]
        exact a5
      · rw [z1 6 6 (by decide) (by decide) (by decide) (by decide), y1 6 6 (by decide), a6]
        exact hv
    · intro ⟨i, Q⟩ ⟨h1, h2, h4⟩
      dsimp only at h1 h2 h4 ⊢
      unfold F_X4_know_s48 F_X4_know_b96 F_X4_know_b97
      have q5 := h2 5 0 (by decide)
      have q66 := h2 6 6 (by decide)
      have q112 := h2 112 i (by decide)
      rw [q5, q66, q112, a6]
      by_cases q : M6 5 0 ≤ i
      · exact b_Wt q (b_Ws ⟨h2, fun k k0 k1 => h4 k k0 (by omega)⟩)
      · have f7 : b_fr [(127, none)] M6 Q := fun c i hi => h2 c i (fun q => by subst q; revert hi; simp [b_ins])
        have hE7 : E_all Q := E_all_k f7 (by decide +kernel) (by decide +kernel) (by decide +kernel) (by decide +kernel) (by decide +kernel) (by decide +kernel) (by decide +kernel) (by decide +kernel) (by decide +kernel) (by decide +kernel) hE6
        have ss7 : SS M6 Q := b_kp1 f7 (by decide +kernel)
        have hK7 : Kn Q d := by
          have k := b_kp1 (S := S_know) f7 (by decide +kernel)
          exact Kn_c hK6 (k 2 0 rfl) (k 11 13 rfl) (funext fun i => k 81 i rfl) (funext fun i => k 82 i rfl) (funext fun i => k 83 i rfl) (funext fun i => k 84 i rfl) (funext fun i => k 164 i rfl) (funext fun i => k 165 i rfl) (funext fun i => k 166 i rfl) (funext fun i => k 167 i rfl)
        have p3 := (hE6.2.2.2.2.1 i h1.1 (by omega)).2.2.1
        have put : ∀ x, (x = 0 ∨ x = 1) → (x = 1 ↔ x_C M6 d i) → ((0 ≤ i + 1 ∧ i + 1 ≤ M6 5 0) ∧ (∀ c j, c ≠ 127 → b_up Q 127 i x c j = M6 c j) ∧ ∀ k, 0 ≤ k → k < i + 1 → (b_up Q 127 i x 127 k = 0 ∨ b_up Q 127 i x 127 k = 1) ∧ (b_up Q 127 i x 127 k = 1 ↔ x_C M6 d k)) ∧ (M6 5 0 - (i + 1)).toNat < (M6 5 0 - i).toNat := by
          intro x hx hx2
          refine ⟨⟨by omega, fun c j hc => by rw [b_upc hc]; exact h2 c j hc, fun k k0 k1 => ?_⟩, by omega⟩
          rw [b_upJ]
          by_cases qk : k = i
          · subst qk; rw [if_pos rfl]; exact ⟨hx, hx2⟩
          · rw [if_neg qk]; exact h4 k k0 (by omega)
        refine b_Wf q (b_Wg (by omega) (b_Wi (fun q1 => b_Wg (by omega) (b_Wl (b_Wg (by omega) (b_Ws (put 0 (Or.inl rfl) ⟨fun z => absurd z (by decide), fun z => ?_⟩))))) (fun q1 => b_We (e_X4_reason hE7.1 hE7.2.2.1 hE7.2.2.2.1 hE7.2.2.2.2.1 hE7.2.2.2.2.2.1 hK7 (by omega)) (b_Wi (fun q2 => b_Wg (by omega) (b_Wl (b_Wg (by omega) (b_Ws (put 1 (Or.inr rfl) ⟨fun _ => ?_, fun _ => rfl⟩))))) (fun q2 => b_Wg (by omega) (b_Wl (b_Wg (by omega) (b_Ws (put 0 (Or.inl rfl) ⟨fun z => absurd z (by decide), fun z => ?_⟩)))))))))
        · have := z.1
          omega
        · rw [sp_cant ss7] at q2
          exact ⟨by omega, q2⟩
        · rw [sp_cant ss7] at q2
          exact absurd z.2 q2
  refine b_Wi (fun q => new) (fun q => b_Wi (fun q2 => b_Ws ⟨hE1, hV1, w4, ?_⟩) (fun q2 => new))
  rcases hV1 with v | ⟨v, v2⟩
  · exact absurd v q
  · rw [q2]; exact v2
