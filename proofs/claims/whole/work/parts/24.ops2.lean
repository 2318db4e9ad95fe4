theorem op_root {M : bM} {l p d : Int} (hppl : R_ppl M) (hlots : R_lots M) : b_wp (F_X11_root l p d M) (fun o => b_wp (F_X12_root l p d o.2) (fun o2 => o.1 = o2.1 ∧ R_lots o2.2)) := by
  have hppl_ := hppl
  unfold R_ppl at hppl_
  have hlots_ := hlots
  unfold R_lots at hlots_
  have hppl2 : M 11 12 = M 2 0 ∧ 0 ≤ M 2 0 ∧ M 2 0 ≤ 80 := ⟨hppl_.1.1, hppl_.1.2.1, hppl_.1.2.2.1⟩
  clear hppl_
  obtain ⟨⟨l1, l2, l3⟩, ⟨f1, f2, f3, f4, f5, f6⟩, hl, hm⟩ := hlots_
  have g2 : 0 ≤ l ∧ l < M 3 0 → M 217 l = M 92 l := fun q => (hl l q.1 q.2).1.2
  all_goals (by_cases c0 : 0 ≤ l ∧ l < M 3 0 ∧ 0 ≤ p ∧ p < M 2 0 ∧ 0 ≤ d ∧ d ≤ 9999)
  all_goals (by_cases c1 : j_cmp (M 91 l) (j_shl 1 l) = 0)
  all_goals (by_cases c2 : M 92 l = -1)
  all_goals (simp (disch := ((try simp (disch := decide) only [b_upF, b_upi, b_ups]); omega)) only [F_X11_root, e_X11_isDay, e_X8_has, e_X5_has, f5, b_bind_s, b_let_s, b_two_s, b_g_s, b_01_0, b_upF, b_ups, b_upi, b_wp_s, b_it2, b_it3, b_it4, b_it5, ite_self, if_pos, if_neg])
  all_goals (try simp (disch := ((try simp (disch := decide) only [b_upF, b_upi, b_ups]); omega)) only [F_X12_root, e_X12_isDay, e_X12_isPerson, e_X12_isLot, f5, b_bind_s, b_let_s, b_two_s, b_g_s, b_01_0, b_upF, b_ups, b_upi, b_wp_s, b_it2, b_it3, b_it4, b_it5, ite_self, if_pos, if_neg])
  all_goals repeat' (with_reducible refine And.intro ?_ ?_)
  all_goals first
    | omega
    | trivial
    | (exfalso; omega)
    | (simp; done)
    | (unfold R_lots; repeat' (with_reducible refine And.intro ?_ ?_)) <;> (try simp (disch := decide) only [b_upF, b_upi, b_ups]) <;> (first | omega | assumption | (exact b_upE (by (try simp (disch := decide) only [b_upF, b_upi, b_ups]); exact f6)) | (intro i q1 q2; simp (disch := decide) only [b_upJ, b_upF]; have := hl i q1 q2; by_cases qq : i = l <;> first | (simp only [if_pos qq, true_and, and_true, true_or, or_true]; omega) | (simp only [if_neg qq]; omega)) | (intro i q1 q2; simp (disch := decide) only [b_upJ, b_upF]; rw [if_neg (by omega)]; have := hm i (by omega) q2; omega) | (simp; done))

theorem op_linked {M : bM} {w : Int} (hlink : R_link M) : b_wp (F_X11_linked w M) (fun o => b_wp (F_X12_linked w M) (fun o2 => o = o2)) := by
  have hlink_ := hlink
  unfold R_link at hlink_
  have z1 : 4 + w - 10 = 4 + (w - 10) := by omega
  have g1 : M 11 97 = 1 → 0 ≤ w - 10 ∧ w - 10 < M 11 95 → M 141 (4 + (w - 10)) = M 224 (w - 10) := fun a b => by
    rcases hlink_ with q | q
    · omega
    · exact q.2.2.2.2.2.2.2.2 _ b.1 b.2
  replace hlink_ : (M 11 97 = 0 ∧ M 141 3 = -1) ∨ (M 11 97 = 1 ∧ M 141 3 = M 11 96 ∧ 0 ≤ M 11 96 ∧ M 141 0 = M 11 93 ∧ M 141 1 = M 11 94 ∧ M 141 2 = M 11 95 ∧ 0 ≤ M 11 95 ∧ M 11 95 ≤ 8) := by
    rcases hlink_ with q | q
    · exact Or.inl q
    · exact Or.inr ⟨q.1, q.2.1, q.2.2.1, q.2.2.2.1, q.2.2.2.2.1, q.2.2.2.2.2.1, q.2.2.2.2.2.2.1, q.2.2.2.2.2.2.2.1⟩
  by_cases d0 : M 11 97 = 0
  · (simp (disch := ((try simp (disch := decide) only [b_upF, b_upi, b_ups]); omega)) only [F_X11_linked, F_X2_recall, F_X2_recall_b58, F_X2_recall_b57, F_X2_recall_b28, z1, b_bind_s, b_let_s, b_two_s, b_g_s, b_01_0, b_upF, b_ups, b_upi, b_wp_s, if_pos, if_neg]) <;> (try (simp (disch := ((try simp (disch := decide) only [b_upF, b_upi, b_ups]); omega)) only [F_X12_linked, e_X12_in, F_X2_recall_b58, F_X2_recall_b57, F_X2_recall_b28, z1, b_bind_s, b_let_s, b_two_s, b_g_s, b_01_0, b_upF, b_ups, b_upi, b_wp_s, if_pos, if_neg])) <;> repeat' (with_reducible refine And.intro ?_ ?_)
    all_goals first | omega | trivial | (exfalso; omega) | (refine b_Ws ?_; omega) | (simp [b_bind_s, b_wp_s]; done) | (simp only [b_bind_s, b_wp_s]; omega) | (simp; done)
  by_cases d1 : w = 0
  · subst d1
    (simp (disch := ((try simp (disch := decide) only [b_upF, b_upi, b_ups]); omega)) only [F_X11_linked, F_X2_recall, F_X2_recall_b58, F_X2_recall_b57, F_X2_recall_b28, z1, b_bind_s, b_let_s, b_two_s, b_g_s, b_01_0, b_upF, b_ups, b_upi, b_wp_s, if_pos, if_neg]) <;> (try (simp (disch := ((try simp (disch := decide) only [b_upF, b_upi, b_ups]); omega)) only [F_X12_linked, e_X12_in, F_X2_recall_b58, F_X2_recall_b57, F_X2_recall_b28, z1, b_bind_s, b_let_s, b_two_s, b_g_s, b_01_0, b_upF, b_ups, b_upi, b_wp_s, if_pos, if_neg])) <;> repeat' (with_reducible refine And.intro ?_ ?_)
    all_goals first | omega | trivial | (exfalso; omega) | (refine b_Ws ?_; omega) | (simp [b_bind_s, b_wp_s]; done) | (simp only [b_bind_s, b_wp_s]; omega) | (simp; done)
  by_cases d2 : w = 1
  · subst d2
    (simp (disch := ((try simp (disch := decide) only [b_upF, b_upi, b_ups]); omega)) only [F_X11_linked, F_X2_recall, F_X2_recall_b58, F_X2_recall_b57, F_X2_recall_b28, z1, b_bind_s, b_let_s, b_two_s, b_g_s, b_01_0, b_upF, b_ups, b_upi, b_wp_s, if_pos, if_neg]) <;> (try (simp (disch := ((try simp (disch := decide) only [b_upF, b_upi, b_ups]); omega)) only [F_X12_linked, e_X12_in, F_X2_recall_b58, F_X2_recall_b57, F_X2_recall_b28, z1, b_bind_s, b_let_s, b_two_s, b_g_s, b_01_0, b_upF, b_ups, b_upi, b_wp_s, if_pos, if_neg])) <;> repeat' (with_reducible refine And.intro ?_ ?_)
    all_goals first | omega | trivial | (exfalso; omega) | (refine b_Ws ?_; omega) | (simp [b_bind_s, b_wp_s]; done) | (simp only [b_bind_s, b_wp_s]; omega) | (simp; done)
  by_cases d3 : w = 2
  · subst d3
    (simp (disch := ((try simp (disch := decide) only [b_upF, b_upi, b_ups]); omega)) only [F_X11_linked, F_X2_recall, F_X2_recall_b58, F_X2_recall_b57, F_X2_recall_b28, z1, b_bind_s, b_let_s, b_two_s, b_g_s, b_01_0, b_upF, b_ups, b_upi, b_wp_s, if_pos, if_neg]) <;> (try (simp (disch := ((try simp (disch := decide) only [b_upF, b_upi, b_ups]); omega)) only [F_X12_linked, e_X12_in, F_X2_recall_b58, F_X2_recall_b57, F_X2_recall_b28, z1, b_bind_s, b_let_s, b_two_s, b_g_s, b_01_0, b_upF, b_ups, b_upi, b_wp_s, if_pos, if_neg])) <;> repeat' (with_reducible refine And.intro ?_ ?_)
    all_goals first | omega | trivial | (exfalso; omega) | (refine b_Ws ?_; omega) | (simp [b_bind_s, b_wp_s]; done) | (simp only [b_bind_s, b_wp_s]; omega) | (simp; done)
  by_cases d4 : w = 3
  · subst d4
    (simp (disch := ((try simp (disch := decide) only [b_upF, b_upi, b_ups]); omega)) only [F_X11_linked, F_X2_recall, F_X2_recall_b58, F_X2_recall_b57, F_X2_recall_b28, z1, b_bind_s, b_let_s, b_two_s, b_g_s, b_01_0, b_upF, b_ups, b_upi, b_wp_s, if_pos, if_neg]) <;> (try (simp (disch := ((try simp (disch := decide) only [b_upF, b_upi, b_ups]); omega)) only [F_X12_linked, e_X12_in, F_X2_recall_b58, F_X2_recall_b57, F_X2_recall_b28, z1, b_bind_s, b_let_s, b_two_s, b_g_s, b_01_0, b_upF, b_ups, b_upi, b_wp_s, if_pos, if_neg])) <;> repeat' (with_reducible refine And.intro ?_ ?_)
    all_goals first | omega | trivial | (exfalso; omega) | (refine b_Ws ?_; omega) | (simp [b_bind_s, b_wp_s]; done) | (simp only [b_bind_s, b_wp_s]; omega) | (simp; done)
  by_cases d5 : w < 10
  · (simp (disch := ((try simp (disch := decide) only [b_upF, b_upi, b_ups]); omega)) only [F_X11_linked, F_X2_recall, F_X2_recall_b58, F_X2_recall_b57, F_X2_recall_b28, z1, b_bind_s, b_let_s, b_two_s, b_g_s, b_01_0, b_upF, b_ups, b_upi, b_wp_s, if_pos, if_neg]) <;> (try (simp (disch := ((try simp (disch := decide) only [b_upF, b_upi, b_ups]); omega)) only [F_X12_linked, e_X12_in, F_X2_recall_b58, F_X2_recall_b57, F_X2_recall_b28, z1, b_bind_s, b_let_s, b_two_s, b_g_s, b_01_0, b_upF, b_ups, b_upi, b_wp_s, if_pos, if_neg])) <;> repeat' (with_reducible refine And.intro ?_ ?_)
    all_goals first | omega | trivial | (exfalso; omega) | (refine b_Ws ?_; omega) | (simp [b_bind_s, b_wp_s]; done) | (simp only [b_bind_s, b_wp_s]; omega) | (simp; done)
  by_cases d6 : 18 ≤ w
  · (simp (disch := ((try simp (disch := decide) only [b_upF, b_upi, b_ups]); omega)) only [F_X11_linked, F_X2_recall, F_X2_recall_b58, F_X2_recall_b57, F_X2_recall_b28, z1, b_bind_s, b_let_s, b_two_s, b_g_s, b_01_0, b_upF, b_ups, b_upi, b_wp_s, if_pos, if_neg]) <;> (try (simp (disch := ((try simp (disch := decide) only [b_upF, b_upi, b_ups]); omega)) only [F_X12_linked, e_X12_in, F_X2_recall_b58, F_X2_recall_b57, F_X2_recall_b28, z1, b_bind_s, b_let_s, b_two_s, b_g_s, b_01_0, b_upF, b_ups, b_upi, b_wp_s, if_pos, if_neg])) <;> repeat' (with_reducible refine And.intro ?_ ?_)
    all_goals first | omega | trivial | (exfalso; omega) | (refine b_Ws ?_; omega) | (simp [b_bind_s, b_wp_s]; done) | (simp only [b_bind_s, b_wp_s]; omega) | (simp; done)
  by_cases d7 : 10 ≤ w ∧ w - 10 < M 11 95
  · (simp (disch := ((try simp (disch := decide) only [b_upF, b_upi, b_ups]); omega)) only [F_X11_linked, F_X2_recall, F_X2_recall_b58, F_X2_recall_b57, F_X2_recall_b28, z1, b_bind_s, b_let_s, b_two_s, b_g_s, b_01_0, b_upF, b_ups, b_upi, b_wp_s, if_pos, if_neg]) <;> (try (simp (disch := ((try simp (disch := decide) only [b_upF, b_upi, b_ups]); omega)) only [F_X12_linked, e_X12_in, F_X2_recall_b58, F_X2_recall_b57, F_X2_recall_b28, z1, b_bind_s, b_let_s, b_two_s, b_g_s, b_01_0, b_upF, b_ups, b_upi, b_wp_s, if_pos, if_neg])) <;> repeat' (with_reducible refine And.intro ?_ ?_)
    all_goals first | omega | trivial | (exfalso; omega) | (refine b_Ws ?_; omega) | (simp [b_bind_s, b_wp_s]; done) | (simp only [b_bind_s, b_wp_s]; omega) | (simp; done)
  all_goals (simp (disch := ((try simp (disch := decide) only [b_upF, b_upi, b_ups]); omega)) only [F_X11_linked, F_X2_recall, F_X2_recall_b58, F_X2_recall_b57, F_X2_recall_b28, z1, b_bind_s, b_let_s, b_two_s, b_g_s, b_01_0, b_upF, b_ups, b_upi, b_wp_s, b_it2, b_it3, b_it4, b_it5, ite_self, if_pos, if_neg])
  all_goals (try simp (disch := ((try simp (disch := decide) only [b_upF, b_upi, b_ups]); omega)) only [F_X12_linked, e_X12_in, F_X2_recall_b58, F_X2_recall_b57, F_X2_recall_b28, z1, b_bind_s, b_let_s, b_two_s, b_g_s, b_01_0, b_upF, b_ups, b_upi, b_wp_s, b_it2, b_it3, b_it4, b_it5, ite_self, if_pos, if_neg])
  all_goals repeat' (with_reducible refine And.intro ?_ ?_)
  all_goals first
    | omega
    | trivial
    | (exfalso; omega)
    | (simp; done)

theorem op_written {M : bM} {k p d b g : Int} (hppl : R_ppl M) (hsign : R_sign M) : b_wp (F_X11_written k p d b g M) (fun o => b_wp (F_X12_written k p d b g o.2) (fun o2 => o.1 = o2.1 ∧ R_sign o2.2)) := by
  have hppl_ := hppl
  unfold R_ppl at hppl_
  have hsign_ := hsign
  unfold R_sign at hsign_
  have hppl2 : M 11 12 = M 2 0 ∧ 0 ≤ M 2 0 ∧ M 2 0 ≤ 80 := ⟨hppl_.1.1, hppl_.1.2.1, hppl_.1.2.2.1⟩
  clear hppl_
  obtain ⟨⟨p1, p2, p3⟩, ht, hz⟩ := hsign_
  have g1 : 0 ≤ k ∧ k < M 5 0 → (M 200 k = 0 ∧ M 116 k = -1) ∨ (M 200 k = 1 ∧ 0 ≤ M 116 k) := fun q => by
    rcases ht k q.1 q.2 with a | a <;> omega
  all_goals (by_cases c0 : (0 ≤ k ∧ k < M 5 0) ∧ (0 ≤ p ∧ p < M 2 0) ∧ (0 ≤ d ∧ d ≤ 9999) ∧ (0 ≤ b ∧ b ≤ 9) ∧ (0 ≤ g ∧ g ≤ 99))
  all_goals (by_cases c1 : M 116 k = -1)
  all_goals (simp (disch := ((try simp (disch := decide) only [b_upF, b_upi, b_ups]); omega)) only [F_X11_written, F_X4_forget, F_X7_sign, e_X11_isDay, e_X8_has, e_X7_has, b_bind_s, b_let_s, b_two_s, b_g_s, b_01_0, b_upF, b_ups, b_upi, b_wp_s, b_it2, b_it3, b_it4, b_it5, ite_self, if_pos, if_neg])
  all_goals (try simp (disch := ((try simp (disch := decide) only [b_upF, b_upi, b_ups]); omega)) only [F_X12_written, e_X12_in, e_X12_isDay, e_X12_isPerson, e_X12_isPaper, b_bind_s, b_let_s, b_two_s, b_g_s, b_01_0, b_upF, b_ups, b_upi, b_wp_s, b_it2, b_it3, b_it4, b_it5, ite_self, if_pos, if_neg])
  all_goals repeat' (with_reducible refine And.intro ?_ ?_)
  all_goals first
    | omega
    | trivial
    | (exfalso; omega)
    | (simp; done)
    | (unfold R_sign; repeat' (with_reducible refine And.intro ?_ ?_)) <;> (try simp (disch := decide) only [b_upF, b_upi, b_ups]) <;> (first | omega | assumption | (intro i q1 q2; simp (disch := decide) only [b_upJ, b_upF]; have := ht i q1 q2; by_cases qq : i = k <;> first | (simp only [if_pos qq, true_and, and_true, true_or, or_true]; omega) | (simp only [if_neg qq]; omega)) | (intro i q1 q2; simp (disch := decide) only [b_upJ, b_upF]; have := hz i q1 q2; (try rw [if_neg (by omega)]); omega) | (simp; done))

