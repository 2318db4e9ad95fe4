theorem op_pass {M : bM} {n : Int} (hday : R_day M) : b_wp (F_X11_pass n M) (fun o => b_wp (F_X12_pass n o.2) (fun o2 => o.1 = o2.1 ∧ R_day o2.2)) := by
  have hday_ := hday
  unfold R_day at hday_
  simp only [F_X12_pass, e_X12_in, F_X11_pass, b_bind_s, b_01_0]
  repeat' first
    | with_reducible refine b_Wi (fun _ => ?_) (fun _ => ?_)
    | with_reducible refine b_Wg ?_ ?_
    | with_reducible refine b_Wl ?_
    | with_reducible refine b_Wtwo ?_
    | with_reducible refine b_We (e_X12_isPerson ?_) ?_
    | with_reducible refine b_We (e_X12_isLot ?_) ?_
    | with_reducible refine b_We (e_X12_isPaper ?_) ?_
    | with_reducible refine b_We (e_X12_isMortgage ?_) ?_
    | with_reducible refine b_Wb ?_
    | with_reducible refine b_Ws ?_
  all_goals (try dsimp only)
  all_goals repeat' (with_reducible refine And.intro ?_ ?_)
  all_goals (try simp (disch := decide) only [b_upF, b_upi, b_ups, b_01_0] at *)
  all_goals first
    | omega
    | assumption
    | (exfalso; omega)
    | (unfold R_day; repeat' (with_reducible refine And.intro ?_ ?_)) <;> (try simp (disch := decide) only [b_upF, b_upi, b_ups]) <;> (first | omega | assumption | (simp; done))

theorem op_end {M : bM} {n : Int} (htape : R_tape M) : b_wp (F_X11_end n M) (fun o => b_wp (F_X12_end n o.2) (fun o2 => o.1 = o2.1 ∧ R_tape o2.2)) := by
  have htape_ := htape
  unfold R_tape at htape_
  obtain ⟨a1, a2, a3, a4, a5⟩ := htape_
  simp only [F_X12_end, F_X11_end, b_bind_s, b_01_0]
  repeat' first
    | with_reducible refine b_Wi (fun _ => ?_) (fun _ => ?_)
    | with_reducible refine b_Wg ?_ ?_
    | with_reducible refine b_Wl ?_
    | with_reducible refine b_Wtwo ?_
    | with_reducible refine b_We (e_X12_isPerson ?_) ?_
    | with_reducible refine b_We (e_X12_isLot ?_) ?_
    | with_reducible refine b_We (e_X12_isPaper ?_) ?_
    | with_reducible refine b_We (e_X12_isMortgage ?_) ?_
    | with_reducible refine b_Wb ?_
    | with_reducible refine b_Ws ?_
  all_goals (try dsimp only)
  all_goals repeat' (with_reducible refine And.intro ?_ ?_)
  all_goals (try simp (disch := decide) only [b_upF, b_upi, b_ups, b_01_0] at *)
  all_goals first
    | omega
    | assumption
    | (exfalso; omega)
    | (unfold R_tape; repeat' (with_reducible refine And.intro ?_ ?_)) <;> (try simp (disch := decide) only [b_upF, b_upi, b_ups]) <;> (first | omega | assumption | (simp; done))

theorem op_person {M : bM} {f : Int} (hppl : R_ppl M) : b_wp (F_X11_person f M) (fun o => b_wp (F_X12_person f o.2) (fun o2 => o.1 = o2.1 ∧ R_ppl o2.2)) := by
  have hppl_ := hppl
  unfold R_ppl at hppl_
  obtain ⟨⟨a1, a2, a3, a4, a5, a6⟩, ⟨e1, e2, e3, e4, e5⟩, hf, ht⟩ := hppl_
  simp only [F_X12_person, e_X12_isDay, F_X11_person, F_X8_add, e_X11_isDay, b_bind_s, b_01_0]
  repeat' first
    | with_reducible refine b_Wi (fun _ => ?_) (fun _ => ?_)
    | with_reducible refine b_Wg ?_ ?_
    | with_reducible refine b_Wl ?_
    | with_reducible refine b_Wtwo ?_
    | with_reducible refine b_We (e_X12_isPerson ?_) ?_
    | with_reducible refine b_We (e_X12_isLot ?_) ?_
    | with_reducible refine b_We (e_X12_isPaper ?_) ?_
    | with_reducible refine b_We (e_X12_isMortgage ?_) ?_
    | with_reducible refine b_Wb ?_
    | with_reducible refine b_Ws ?_
  all_goals (try dsimp only)
  all_goals repeat' (with_reducible refine And.intro ?_ ?_)
  all_goals (try simp (disch := decide) only [b_upF, b_upi, b_ups, b_01_0] at *)
  all_goals first
    | omega
    | assumption
    | (exfalso; omega)
    | (unfold R_ppl; repeat' (with_reducible refine And.intro ?_ ?_)) <;> (try simp (disch := decide) only [b_upF, b_upi, b_ups]) <;> (first | omega | assumption | (rw [a1]; exact b_upE (by (try simp (disch := decide) only [b_upF, b_upi, b_ups]); exact e1)) | (intro p; rw [b_upJ]; have := hf p; split <;> omega) | (intro t q1 q2; have := ht t q1 q2; omega) | (simp; done))

theorem op_dead {M : bM} {p f : Int} (hday : R_day M) (hppl : R_ppl M) : b_wp (F_X11_dead p f M) (fun o => b_wp (F_X12_dead p f o.2) (fun o2 => o.1 = o2.1 ∧ R_ppl o2.2)) := by
  have hday_ := hday
  unfold R_day at hday_
  have hppl_ := hppl
  unfold R_ppl at hppl_
  obtain ⟨⟨a1, a2, a3, a4, a5, a6⟩, ⟨e1, e2, e3, e4, e5⟩, hf, ht⟩ := hppl_
  all_goals (by_cases c0 : 0 ≤ p ∧ p < M 2 0 ∧ 0 ≤ f ∧ f ≤ 9999)
  all_goals (by_cases c1 : M 2 1 < 400)
  all_goals (simp (disch := ((try simp (disch := decide) only [b_upF, b_upi, b_ups]); omega)) only [F_X11_dead, F_X8_tell, F_X4_forget, e_X11_isDay, e_X8_has, b_bind_s, b_let_s, b_two_s, b_g_s, b_01_0, b_upF, b_ups, b_upi, b_wp_s, b_it2, b_it3, b_it4, b_it5, ite_self, if_pos, if_neg])
  all_goals (try simp (disch := ((try simp (disch := decide) only [b_upF, b_upi, b_ups]); omega)) only [F_X12_dead, F_X12_tell, e_X12_isDay, e_X12_isPerson, b_bind_s, b_let_s, b_two_s, b_g_s, b_01_0, b_upF, b_ups, b_upi, b_wp_s, b_it2, b_it3, b_it4, b_it5, ite_self, if_pos, if_neg])
  all_goals repeat' (with_reducible refine And.intro ?_ ?_)
  all_goals first
    | omega
    | trivial
    | (exfalso; omega)
    | (simp; done)
    | (unfold R_ppl; repeat' (with_reducible refine And.intro ?_ ?_)) <;> (try simp (disch := decide) only [b_upF, b_upi, b_ups]) <;> (first | omega | assumption | (rw [a4]; exact b_upE (by (try simp (disch := decide) only [b_upF, b_upi, b_ups]); exact e2)) | (rw [a4]; exact b_upE (by (try simp (disch := decide) only [b_upF, b_upi, b_ups]); exact e3)) | (rw [a4]; exact b_upE (by (try simp (disch := decide) only [b_upF, b_upi, b_ups]); exact e4)) | (rw [a4, hday_.1]; exact b_upE (by (try simp (disch := decide) only [b_upF, b_upi, b_ups]); exact e5)) | (intro t q1 q2; simp (disch := decide) only [b_upJ, b_upF]; by_cases qq : t = M 2 1 <;> simp only [qq, if_true, if_false, true_or, or_true, true_and, and_true] <;> first | omega | (have := ht t q1 (by omega); omega)) | (simp; done))

theorem op_same {M : bM} {p q : Int} (hday : R_day M) (hppl : R_ppl M) : b_wp (F_X11_same p q M) (fun o => b_wp (F_X12_same p q o.2) (fun o2 => o.1 = o2.1 ∧ R_ppl o2.2)) := by
  have hday_ := hday
  unfold R_day at hday_
  have hppl_ := hppl
  unfold R_ppl at hppl_
  obtain ⟨⟨a1, a2, a3, a4, a5, a6⟩, ⟨e1, e2, e3, e4, e5⟩, hf, ht⟩ := hppl_
  all_goals (by_cases c0 : 0 ≤ p ∧ p < M 2 0 ∧ 0 ≤ q ∧ q < M 2 0 ∧ p ≠ q)
  all_goals (by_cases c1 : M 2 1 < 400)
  all_goals (simp (disch := ((try simp (disch := decide) only [b_upF, b_upi, b_ups]); omega)) only [F_X11_same, F_X11_tellOfTwo, F_X8_tell, F_X4_forget, e_X8_has, b_bind_s, b_let_s, b_two_s, b_g_s, b_01_0, b_upF, b_ups, b_upi, b_wp_s, b_it2, b_it3, b_it4, b_it5, ite_self, if_pos, if_neg])
  all_goals (try simp (disch := ((try simp (disch := decide) only [b_upF, b_upi, b_ups]); omega)) only [F_X12_same, F_X12_tell, e_X12_isPair, b_bind_s, b_let_s, b_two_s, b_g_s, b_01_0, b_upF, b_ups, b_upi, b_wp_s, b_it2, b_it3, b_it4, b_it5, ite_self, if_pos, if_neg])
  all_goals repeat' (with_reducible refine And.intro ?_ ?_)
  all_goals first
    | omega
    | trivial
    | (exfalso; omega)
    | (simp; done)
    | (unfold R_ppl; repeat' (with_reducible refine And.intro ?_ ?_)) <;> (try simp (disch := decide) only [b_upF, b_upi, b_ups]) <;> (first | omega | assumption | (rw [a4]; exact b_upE (by (try simp (disch := decide) only [b_upF, b_upi, b_ups]); exact e2)) | (rw [a4]; exact b_upE (by (try simp (disch := decide) only [b_upF, b_upi, b_ups]); exact e3)) | (rw [a4]; exact b_upE (by (try simp (disch := decide) only [b_upF, b_upi, b_ups]); exact e4)) | (rw [a4, hday_.1]; exact b_upE (by (try simp (disch := decide) only [b_upF, b_upi, b_ups]); exact e5)) | (intro t q1 q2; simp (disch := decide) only [b_upJ, b_upF]; by_cases qq : t = M 2 1 <;> simp only [qq, if_true, if_false, true_or, or_true, true_and, and_true] <;> first | omega | (have := ht t q1 (by omega); omega)) | (simp; done))

theorem op_apart {M : bM} {p q : Int} (hday : R_day M) (hppl : R_ppl M) : b_wp (F_X11_apart p q M) (fun o => b_wp (F_X12_apart p q o.2) (fun o2 => o.1 = o2.1 ∧ R_ppl o2.2)) := by
  have hday_ := hday
  unfold R_day at hday_
  have hppl_ := hppl
  unfold R_ppl at hppl_
  obtain ⟨⟨a1, a2, a3, a4, a5, a6⟩, ⟨e1, e2, e3, e4, e5⟩, hf, ht⟩ := hppl_
  all_goals (by_cases c0 : 0 ≤ p ∧ p < M 2 0 ∧ 0 ≤ q ∧ q < M 2 0 ∧ p ≠ q)
  all_goals (by_cases c1 : M 2 1 < 400)
  all_goals (simp (disch := ((try simp (disch := decide) only [b_upF, b_upi, b_ups]); omega)) only [F_X11_apart, F_X11_tellOfTwo, F_X8_tell, F_X4_forget, e_X8_has, b_bind_s, b_let_s, b_two_s, b_g_s, b_01_0, b_upF, b_ups, b_upi, b_wp_s, b_it2, b_it3, b_it4, b_it5, ite_self, if_pos, if_neg])
  all_goals (try simp (disch := ((try simp (disch := decide) only [b_upF, b_upi, b_ups]); omega)) only [F_X12_apart, F_X12_tell, e_X12_isPair, b_bind_s, b_let_s, b_two_s, b_g_s, b_01_0, b_upF, b_ups, b_upi, b_wp_s, b_it2, b_it3, b_it4, b_it5, ite_self, if_pos, if_neg])
  all_goals repeat' (with_reducible refine And.intro ?_ ?_)
  all_goals first
    | omega
    | trivial
    | (exfalso; omega)
    | (simp; done)
    | (unfold R_ppl; repeat' (with_reducible refine And.intro ?_ ?_)) <;> (try simp (disch := decide) only [b_upF, b_upi, b_ups]) <;> (first | omega | assumption | (rw [a4]; exact b_upE (by (try simp (disch := decide) only [b_upF, b_upi, b_ups]); exact e2)) | (rw [a4]; exact b_upE (by (try simp (disch := decide) only [b_upF, b_upi, b_ups]); exact e3)) | (rw [a4]; exact b_upE (by (try simp (disch := decide) only [b_upF, b_upi, b_ups]); exact e4)) | (rw [a4, hday_.1]; exact b_upE (by (try simp (disch := decide) only [b_upF, b_upi, b_ups]); exact e5)) | (intro t q1 q2; simp (disch := decide) only [b_upJ, b_upF]; by_cases qq : t = M 2 1 <;> simp only [qq, if_true, if_false, true_or, or_true, true_and, and_true] <;> first | omega | (have := ht t q1 (by omega); omega)) | (simp; done))

theorem op_child {M : bM} {p q : Int} (hday : R_day M) (hppl : R_ppl M) : b_wp (F_X11_child p q M) (fun o => b_wp (F_X12_child p q o.2) (fun o2 => o.1 = o2.1 ∧ R_ppl o2.2)) := by
  have hday_ := hday
  unfold R_day at hday_
  have hppl_ := hppl
  unfold R_ppl at hppl_
  obtain ⟨⟨a1, a2, a3, a4, a5, a6⟩, ⟨e1, e2, e3, e4, e5⟩, hf, ht⟩ := hppl_
  all_goals (by_cases c0 : 0 ≤ p ∧ p < M 2 0 ∧ 0 ≤ q ∧ q < M 2 0 ∧ p ≠ q)
  all_goals (by_cases c1 : M 2 1 < 400)
  all_goals (simp (disch := ((try simp (disch := decide) only [b_upF, b_upi, b_ups]); omega)) only [F_X11_child, F_X11_tellOfTwo, F_X8_tell, F_X4_forget, e_X8_has, b_bind_s, b_let_s, b_two_s, b_g_s, b_01_0, b_upF, b_ups, b_upi, b_wp_s, b_it2, b_it3, b_it4, b_it5, ite_self, if_pos, if_neg])
  all_goals (try simp (disch := ((try simp (disch := decide) only [b_upF, b_upi, b_ups]); omega)) only [F_X12_child, F_X12_tell, e_X12_isPair, b_bind_s, b_let_s, b_two_s, b_g_s, b_01_0, b_upF, b_ups, b_upi, b_wp_s, b_it2, b_it3, b_it4, b_it5, ite_self, if_pos, if_neg])
  all_goals repeat' (with_reducible refine And.intro ?_ ?_)
  all_goals first
    | omega
    | trivial
    | (exfalso; omega)
    | (simp; done)
    | (unfold R_ppl; repeat' (with_reducible refine And.intro ?_ ?_)) <;> (try simp (disch := decide) only [b_upF, b_upi, b_ups]) <;> (first | omega | assumption | (rw [a4]; exact b_upE (by (try simp (disch := decide) only [b_upF, b_upi, b_ups]); exact e2)) | (rw [a4]; exact b_upE (by (try simp (disch := decide) only [b_upF, b_upi, b_ups]); exact e3)) | (rw [a4]; exact b_upE (by (try simp (disch := decide) only [b_upF, b_upi, b_ups]); exact e4)) | (rw [a4, hday_.1]; exact b_upE (by (try simp (disch := decide) only [b_upF, b_upi, b_ups]); exact e5)) | (intro t q1 q2; simp (disch := decide) only [b_upJ, b_upF]; by_cases qq : t = M 2 1 <;> simp only [qq, if_true, if_false, true_or, or_true, true_and, and_true] <;> first | omega | (have := ht t q1 (by omega); omega)) | (simp; done))

theorem op_fault {M : bM} {w : Int} (hfault : R_fault M) : b_wp (F_X11_fault w M) (fun o => b_wp (F_X12_fault w M) (fun o2 => o = o2)) := by
  have hfault_ := hfault
  unfold R_fault at hfault_
  all_goals (by_cases c0 : w = 0)
  all_goals (by_cases c1 : w = 1)
  all_goals (simp (disch := ((try simp (disch := decide) only [b_upF, b_upi, b_ups]); omega)) only [F_X11_fault, b_bind_s, b_let_s, b_two_s, b_g_s, b_01_0, b_upF, b_ups, b_upi, b_wp_s, b_it2, b_it3, b_it4, b_it5, ite_self, if_pos, if_neg])
  all_goals (try simp (disch := ((try simp (disch := decide) only [b_upF, b_upi, b_ups]); omega)) only [F_X12_fault, b_bind_s, b_let_s, b_two_s, b_g_s, b_01_0, b_upF, b_ups, b_upi, b_wp_s, b_it2, b_it3, b_it4, b_it5, ite_self, if_pos, if_neg])
  all_goals repeat' (with_reducible refine And.intro ?_ ?_)
  all_goals first
    | omega
    | trivial
    | (exfalso; omega)
    | (simp; done)

theorem op_looked {M : bM} {w : Int} (hlook : R_look M) : b_wp (F_X11_looked w M) (fun o => b_wp (F_X12_looked w M) (fun o2 => o = o2)) := by
  have hlook_ := hlook
  unfold R_look at hlook_
  all_goals (by_cases c0 : M 10 13 = 0)
  all_goals (by_cases c1 : w = 0)
  all_goals (by_cases c2 : w = 1)
  all_goals (simp (disch := ((try simp (disch := decide) only [b_upF, b_upi, b_ups]); omega)) only [F_X11_looked, F_X9_recall, b_bind_s, b_let_s, b_two_s, b_g_s, b_01_0, b_upF, b_ups, b_upi, b_wp_s, b_it2, b_it3, b_it4, b_it5, ite_self, if_pos, if_neg])
  all_goals (try simp (disch := ((try simp (disch := decide) only [b_upF, b_upi, b_ups]); omega)) only [F_X12_looked, b_bind_s, b_let_s, b_two_s, b_g_s, b_01_0, b_upF, b_ups, b_upi, b_wp_s, b_it2, b_it3, b_it4, b_it5, ite_self, if_pos, if_neg])
  all_goals repeat' (with_reducible refine And.intro ?_ ?_)
  all_goals first
    | omega
    | trivial
    | (exfalso; omega)
    | (simp; done)

theorem op_fund {M : bM} {n : Int} (hcoin : R_coin M) : b_wp (F_X11_fund n M) (fun o => b_wp (F_X12_fund n o.2) (fun o2 => o.1 = o2.1 ∧ R_coin o2.2)) := by
  have hcoin_ := hcoin
  unfold R_coin at hcoin_
  all_goals (by_cases c0 : 1 ≤ n ∧ n ≤ 99999)
  all_goals (by_cases c1 : M 9 1 + n ≤ 9999999)
  all_goals (simp (disch := ((try simp (disch := decide) only [b_upF, b_upi, b_ups]); omega)) only [F_X11_fund, F_X3_putCoin, b_bind_s, b_let_s, b_two_s, b_g_s, b_01_0, b_upF, b_ups, b_upi, b_wp_s, b_it2, b_it3, b_it4, b_it5, ite_self, if_pos, if_neg])
  all_goals (try simp (disch := ((try simp (disch := decide) only [b_upF, b_upi, b_ups]); omega)) only [F_X12_fund, e_X12_in, b_bind_s, b_let_s, b_two_s, b_g_s, b_01_0, b_upF, b_ups, b_upi, b_wp_s, b_it2, b_it3, b_it4, b_it5, ite_self, if_pos, if_neg])
  all_goals repeat' (with_reducible refine And.intro ?_ ?_)
  all_goals first
    | omega
    | trivial
    | (exfalso; omega)
    | (simp; done)
    | (unfold R_coin; repeat' (with_reducible refine And.intro ?_ ?_)) <;> (try simp (disch := decide) only [b_upF, b_upi, b_ups]) <;> (first | omega | assumption | (simp; done))

theorem op_burnt {M : bM} (hburnt : R_burnt M) : b_wp (F_X11_burnt  M) (fun o => b_wp (F_X12_burnt  o.2) (fun o2 => o.1 = o2.1 ∧ R_burnt o2.2)) := by
  have hburnt_ := hburnt
  unfold R_burnt at hburnt_
  all_goals (by_cases c0 : M 6 0 < 30)
  all_goals (simp (disch := ((try simp (disch := decide) only [b_upF, b_upi, b_ups]); omega)) only [F_X11_burnt, F_X4_addBurnt, F_X4_forget, b_bind_s, b_let_s, b_two_s, b_g_s, b_01_0, b_upF, b_ups, b_upi, b_wp_s, b_it2, b_it3, b_it4, b_it5, ite_self, if_pos, if_neg])
  all_goals (try simp (disch := ((try simp (disch := decide) only [b_upF, b_upi, b_ups]); omega)) only [F_X12_burnt, b_bind_s, b_let_s, b_two_s, b_g_s, b_01_0, b_upF, b_ups, b_upi, b_wp_s, b_it2, b_it3, b_it4, b_it5, ite_self, if_pos, if_neg])
  all_goals repeat' (with_reducible refine And.intro ?_ ?_)
  all_goals first
    | omega
    | trivial
    | (exfalso; omega)
    | (simp; done)
    | (unfold R_burnt; repeat' (with_reducible refine And.intro ?_ ?_)) <;> (try simp (disch := decide) only [b_upF, b_upi, b_ups]) <;> (first | omega | assumption | (simp; done))

theorem op_pages {M : bM} {n : Int} (hpages : R_pages M) : b_wp (F_X11_pages n M) (fun o => b_wp (F_X12_pages n o.2) (fun o2 => o.1 = o2.1 ∧ R_pages o2.2)) := by
  have hpages_ := hpages
  unfold R_pages at hpages_
  all_goals (by_cases c0 : 1 ≤ n ∧ n ≤ 40)
  all_goals (simp (disch := ((try simp (disch := decide) only [b_upF, b_upi, b_ups]); omega)) only [F_X11_pages, F_X4_forget, b_bind_s, b_let_s, b_two_s, b_g_s, b_01_0, b_upF, b_ups, b_upi, b_wp_s, b_it2, b_it3, b_it4, b_it5, ite_self, if_pos, if_neg])
  all_goals (try simp (disch := ((try simp (disch := decide) only [b_upF, b_upi, b_ups]); omega)) only [F_X12_pages, e_X12_in, b_bind_s, b_let_s, b_two_s, b_g_s, b_01_0, b_upF, b_ups, b_upi, b_wp_s, b_it2, b_it3, b_it4, b_it5, ite_self, if_pos, if_neg])
  all_goals repeat' (with_reducible refine And.intro ?_ ?_)
  all_goals first
    | omega
    | trivial
    | (exfalso; omega)
    | (simp; done)
    | (unfold R_pages; repeat' (with_reducible refine And.intro ?_ ?_)) <;> (try simp (disch := decide) only [b_upF, b_upi, b_ups]) <;> (first | omega | assumption | (simp; done))

theorem op_place {M : bM} {c b p : Int} (hburnt : R_burnt M) (hplace : R_place M) (hlook : R_look M) : b_wp (F_X11_place c b p M) (fun o => b_wp (F_X12_place c b p o.2) (fun o2 => o.1 = o2.1 ∧ R_place o2.2 ∧ R_look o2.2)) := by
  have hburnt_ := hburnt
  unfold R_burnt at hburnt_
  have hplace_ := hplace
  unfold R_place at hplace_
  have hlook_ := hlook
  unfold R_look at hlook_
  obtain ⟨⟨a1, a2, a3⟩, ⟨e1, e2, e3⟩, ht⟩ := hplace_
  all_goals (by_cases c0 : 1 ≤ c ∧ c ≤ 99 ∧ 0 ≤ b ∧ b < M 6 0 ∧ 1 ≤ p ∧ p ≤ 99)
  all_goals (by_cases c1 : M 10 0 < 12)
  all_goals (simp (disch := ((try simp (disch := decide) only [b_upF, b_upi, b_ups]); omega)) only [F_X11_place, F_X9_add, b_bind_s, b_let_s, b_two_s, b_g_s, b_01_0, b_upF, b_ups, b_upi, b_wp_s, b_it2, b_it3, b_it4, b_it5, ite_self, if_pos, if_neg])
  all_goals (try simp (disch := ((try simp (disch := decide) only [b_upF, b_upi, b_ups]); omega)) only [F_X12_place, e_X12_in, b_bind_s, b_let_s, b_two_s, b_g_s, b_01_0, b_upF, b_ups, b_upi, b_wp_s, b_it2, b_it3, b_it4, b_it5, ite_self, if_pos, if_neg])
  all_goals repeat' (with_reducible refine And.intro ?_ ?_)
  all_goals first
    | omega
    | trivial
    | (exfalso; omega)
    | (simp; done)
    | (unfold R_place; repeat' (with_reducible refine And.intro ?_ ?_)) <;> (try simp (disch := decide) only [b_upF, b_upi, b_ups]) <;> (first | omega | assumption | (rw [a1]; exact b_upE (by (try simp (disch := decide) only [b_upF, b_upi, b_ups]); exact e1)) | (rw [a1]; exact b_upE (by (try simp (disch := decide) only [b_upF, b_upi, b_ups]); exact e2)) | (rw [a1]; exact b_upE (by (try simp (disch := decide) only [b_upF, b_upi, b_ups]); exact e3)) | (intro i q1 q2; simp (disch := decide) only [b_upJ, b_upF]; by_cases qq : i = M 10 0 <;> simp only [qq, if_true, if_false, true_or, or_true, true_and, and_true] <;> first | omega | (have := ht i q1 (by omega); omega)) | (simp; done))
    | (unfold R_look; repeat' (with_reducible refine And.intro ?_ ?_)) <;> (try simp (disch := decide) only [b_upF, b_upi, b_ups]) <;> (first | omega | assumption | (simp; done))

theorem op_lot {M : bM} {n d : Int} (hlots : R_lots M) : b_wp (F_X11_lot n d M) (fun o => b_wp (F_X12_lot n d o.2) (fun o2 => o.1 = o2.1 ∧ R_lots o2.2)) := by
  have hlots_ := hlots
  unfold R_lots at hlots_
  obtain ⟨⟨l1, l2, l3⟩, ⟨f1, f2, f3, f4, f5, f6⟩, hl, hm⟩ := hlots_
  all_goals (by_cases c0 : (1 ≤ n ∧ n ≤ 999999) ∧ (0 ≤ d ∧ d ≤ 9999))
  all_goals (by_cases c1 : M 3 0 < 60)
  all_goals (simp (disch := ((try simp (disch := decide) only [b_upF, b_upi, b_ups]); omega)) only [F_X11_lot, F_X5_add, e_X5_room, e_X11_isDay, e_X5_isFeet, b_bind_s, b_let_s, b_two_s, b_g_s, b_01_0, b_upF, b_ups, b_upi, b_wp_s, b_it2, b_it3, b_it4, b_it5, ite_self, if_pos, if_neg])
  all_goals (try simp (disch := ((try simp (disch := decide) only [b_upF, b_upi, b_ups]); omega)) only [F_X12_lot, F_X12_add, e_X12_isDay, e_X12_isFeet, b_bind_s, b_let_s, b_two_s, b_g_s, b_01_0, b_upF, b_ups, b_upi, b_wp_s, b_it2, b_it3, b_it4, b_it5, ite_self, if_pos, if_neg])
  all_goals repeat' (with_reducible refine And.intro ?_ ?_)
  all_goals first
    | omega
    | trivial
    | (exfalso; omega)
    | (simp; done)
    | (unfold R_lots; repeat' (with_reducible refine And.intro ?_ ?_)) <;> (try simp (disch := decide) only [b_upF, b_upi, b_ups]) <;> (first | omega | assumption | (rw [l1]; exact b_upE (by (try simp (disch := decide) only [b_upF, b_upi, b_ups]); exact f1)) | (rw [l1]; exact b_upE (by (try simp (disch := decide) only [b_upF, b_upi, b_ups]); exact f2)) | (rw [l1]; exact b_upE (by (try simp (disch := decide) only [b_upF, b_upi, b_ups]); exact f5)) | (intro i q1 q2; simp (disch := decide) only [b_upJ, b_upF]; by_cases qq : i = M 3 0 <;> simp only [qq, if_true, if_false, true_or, or_true, true_and, and_true] <;> first | (have := hm (M 3 0) (by omega) (by omega); omega) | (have := hl i q1 (by omega); omega)) | (intro i q1 q2; have := hm i (by omega) q2; omega) | (simp; done))

theorem op_line {M : bM} {p : Int} (hlots : R_lots M) : b_wp (F_X11_line p M) (fun o => b_wp (F_X12_line p M) (fun o2 => o = o2)) := by
  have hlots_ := hlots
  unfold R_lots at hlots_
  obtain ⟨⟨l1, l2, l3⟩, ⟨f1, f2, f3, f4, f5, f6⟩, hl, hm⟩ := hlots_
  all_goals (by_cases c0 : 0 ≤ p ∧ p < M 3 0)
  all_goals (simp (disch := ((try simp (disch := decide) only [b_upF, b_upi, b_ups]); omega)) only [F_X11_line, e_X5_has, f5, b_bind_s, b_let_s, b_two_s, b_g_s, b_01_0, b_upF, b_ups, b_upi, b_wp_s, b_it2, b_it3, b_it4, b_it5, ite_self, if_pos, if_neg])
  all_goals (try simp (disch := ((try simp (disch := decide) only [b_upF, b_upi, b_ups]); omega)) only [F_X12_line, e_X12_isLot, f5, b_bind_s, b_let_s, b_two_s, b_g_s, b_01_0, b_upF, b_ups, b_upi, b_wp_s, b_it2, b_it3, b_it4, b_it5, ite_self, if_pos, if_neg])
  all_goals repeat' (with_reducible refine And.intro ?_ ?_)
  all_goals first
    | omega
    | trivial
    | (exfalso; omega)
    | (simp; done)

theorem op_mortgage {M : bM} {l p n d t : Int} (hppl : R_ppl M) (hlots : R_lots M) (hmort : R_mort M) : b_wp (F_X11_mortgage l p n d t M) (fun o => b_wp (F_X12_mortgage l p n d t o.2) (fun o2 => o.1 = o2.1 ∧ R_mort o2.2)) := by
  have hppl_ := hppl
  unfold R_ppl at hppl_
  have hlots_ := hlots
  unfold R_lots at hlots_
  have hmort_ := hmort
  unfold R_mort at hmort_
  have hppl2 : M 11 12 = M 2 0 ∧ 0 ≤ M 2 0 ∧ M 2 0 ≤ 80 := ⟨hppl_.1.1, hppl_.1.2.1, hppl_.1.2.2.1⟩
  clear hppl_
  obtain ⟨⟨l1, l2, l3⟩, ⟨f1, f2, f3, f4, f5, f6⟩, hl, hm⟩ := hlots_
  obtain ⟨⟨m1, m2, m3⟩, ⟨e1, e2, e3, e4, e5⟩, ht⟩ := hmort_
  all_goals (by_cases c0 : (0 ≤ l ∧ l < M 3 0) ∧ (0 ≤ p ∧ p < M 2 0) ∧ (1 ≤ n ∧ n ≤ 99999) ∧ (0 ≤ d ∧ d ≤ 9999) ∧ (d ≤ t ∧ t ≤ 9999))
  all_goals (by_cases c1 : M 8 0 < 40)
  all_goals (simp (disch := ((try simp (disch := decide) only [b_upF, b_upi, b_ups]); omega)) only [F_X11_mortgage, F_X6_add, e_X11_isDay, e_X8_has, e_X5_has, b_bind_s, b_let_s, b_two_s, b_g_s, b_01_0, b_upF, b_ups, b_upi, b_wp_s, b_it2, b_it3, b_it4, b_it5, ite_self, if_pos, if_neg])
  all_goals (try simp (disch := ((try simp (disch := decide) only [b_upF, b_upi, b_ups]); omega)) only [F_X12_mortgage, e_X12_isDay, e_X12_in, e_X12_isPerson, e_X12_isLot, b_bind_s, b_let_s, b_two_s, b_g_s, b_01_0, b_upF, b_ups, b_upi, b_wp_s, b_it2, b_it3, b_it4, b_it5, ite_self, if_pos, if_neg])
  all_goals repeat' (with_reducible refine And.intro ?_ ?_)
  all_goals first
    | omega
    | trivial
    | (exfalso; omega)
    | (simp; done)
    | (unfold R_mort; repeat' (with_reducible refine And.intro ?_ ?_)) <;> (try simp (disch := decide) only [b_upF, b_upi, b_ups]) <;> (first | omega | assumption | (rw [m1]; exact b_upE (by (try simp (disch := decide) only [b_upF, b_upi, b_ups]); exact e1)) | (rw [m1]; exact b_upE (by (try simp (disch := decide) only [b_upF, b_upi, b_ups]); exact e2)) | (rw [m1]; exact b_upE (by (try simp (disch := decide) only [b_upF, b_upi, b_ups]); exact e3)) | (rw [m1]; exact b_upE (by (try simp (disch := decide) only [b_upF, b_upi, b_ups]); exact e4)) | (intro i q1 q2; simp (disch := decide) only [b_upJ, b_upF]; by_cases qq : i = M 8 0 <;> simp only [qq, if_true, if_false, true_or, or_true, true_and, and_true] <;> first | omega | (have := ht i q1 (by omega); omega)) | (simp; done))

theorem op_paid {M : bM} {m d : Int} (hday : R_day M) (hmort : R_mort M) : b_wp (F_X11_paid m d M) (fun o => b_wp (F_X12_paid m d o.2) (fun o2 => o.1 = o2.1 ∧ R_mort o2.2)) := by
  have hday_ := hday
  unfold R_day at hday_
  have hmort_ := hmort
  unfold R_mort at hmort_
  obtain ⟨⟨m1, m2, m3⟩, ⟨e1, e2, e3, e4, e5⟩, ht⟩ := hmort_
  all_goals (by_cases c0 : (0 ≤ m ∧ m < M 8 0) ∧ (0 ≤ d ∧ d ≤ 9999))
  all_goals (by_cases c1 : M 145 m = -1)
  all_goals (simp (disch := ((try simp (disch := decide) only [b_upF, b_upi, b_ups]); omega)) only [F_X11_paid, F_X6_pay, e_X11_isDay, e_X6_has, e4, b_bind_s, b_let_s, b_two_s, b_g_s, b_01_0, b_upF, b_ups, b_upi, b_wp_s, b_it2, b_it3, b_it4, b_it5, ite_self, if_pos, if_neg])
  all_goals (try simp (disch := ((try simp (disch := decide) only [b_upF, b_upi, b_ups]); omega)) only [F_X12_paid, e_X12_isDay, e_X12_isMortgage, e4, b_bind_s, b_let_s, b_two_s, b_g_s, b_01_0, b_upF, b_ups, b_upi, b_wp_s, b_it2, b_it3, b_it4, b_it5, ite_self, if_pos, if_neg])
  all_goals repeat' (with_reducible refine And.intro ?_ ?_)
  all_goals first
    | omega
    | trivial
    | (exfalso; omega)
    | (simp; done)
    | (unfold R_mort; repeat' (with_reducible refine And.intro ?_ ?_)) <;> (try simp (disch := decide) only [b_upF, b_upi, b_ups]) <;> (first | omega | assumption | (exact b_upE (by (try simp (disch := decide) only [b_upF, b_upi, b_ups]); exact e4)) | (rw [hday_.1]; exact b_upE (by (try simp (disch := decide) only [b_upF, b_upi, b_ups]); exact e5)) | (intro i q1 q2; simp (disch := decide) only [b_upJ, b_upF]; have := ht i q1 q2; by_cases qq : i = m <;> simp only [qq, if_true, if_false, true_or, or_true, true_and, and_true] <;> first | omega | (subst qq; omega)) | (simp; done))

theorem op_claim {M : bM} {p l : Int} (hday : R_day M) (hppl : R_ppl M) (hlots : R_lots M) (hclaim : R_claim M) : b_wp (F_X11_claim p l M) (fun o => b_wp (F_X12_claim p l o.2) (fun o2 => o.1 = o2.1 ∧ R_claim o2.2)) := by
  have hday_ := hday
  unfold R_day at hday_
  have hppl_ := hppl
  unfold R_ppl at hppl_
  have hlots_ := hlots
  unfold R_lots at hlots_
  have hclaim_ := hclaim
  unfold R_claim at hclaim_
  have hppl2 : M 11 12 = M 2 0 ∧ 0 ≤ M 2 0 ∧ M 2 0 ≤ 80 := ⟨hppl_.1.1, hppl_.1.2.1, hppl_.1.2.2.1⟩
  clear hppl_
  obtain ⟨⟨l1, l2, l3⟩, ⟨f1, f2, f3, f4, f5, f6⟩, hl, hm⟩ := hlots_
  obtain ⟨⟨k1, k2, k3⟩, ⟨e1, e2, e3⟩, ht⟩ := hclaim_
  have g2 : 0 ≤ l ∧ l < M 3 0 → M 171 l = M 88 l := fun q => (hl l q.1 q.2).1.1
  all_goals (by_cases c0 : (0 ≤ p ∧ p < M 2 0) ∧ (0 ≤ l ∧ l < M 3 0))
  all_goals (by_cases c1 : M 87 l ≤ M 0 10 ∧ (M 88 l = -1 ∨ M 0 10 < M 88 l))
  all_goals (by_cases c2 : M 9 0 < 30)
  all_goals (simp (disch := ((try simp (disch := decide) only [b_upF, b_upi, b_ups]); omega)) only [F_X11_claim, F_X3_add, e_X5_isThere, e_X5_has, e_X8_has, f2, b_bind_s, b_let_s, b_two_s, b_g_s, b_01_0, b_upF, b_ups, b_upi, b_wp_s, b_it2, b_it3, b_it4, b_it5, ite_self, if_pos, if_neg])
  all_goals (try simp (disch := ((try simp (disch := decide) only [b_upF, b_upi, b_ups]); omega)) only [F_X12_claim, e_X12_isThere, e_X12_isLot, e_X12_isPerson, f2, b_bind_s, b_let_s, b_two_s, b_g_s, b_01_0, b_upF, b_ups, b_upi, b_wp_s, b_it2, b_it3, b_it4, b_it5, ite_self, if_pos, if_neg])
  all_goals repeat' (with_reducible refine And.intro ?_ ?_)
  all_goals first
    | omega
    | trivial
    | (exfalso; omega)
    | (simp; done)
    | (unfold R_claim; repeat' (with_reducible refine And.intro ?_ ?_)) <;> (try simp (disch := decide) only [b_upF, b_upi, b_ups]) <;> (first | omega | assumption | (rw [k1]; exact b_upE (by (try simp (disch := decide) only [b_upF, b_upi, b_ups]); exact e1)) | (rw [k1]; exact b_upE (by (try simp (disch := decide) only [b_upF, b_upi, b_ups]); exact e2)) | (rw [k1, hday_.1]; exact b_upE (by (try simp (disch := decide) only [b_upF, b_upi, b_ups]); exact e3)) | (intro i q1 q2; simp (disch := decide) only [b_upJ, b_upF]; by_cases qq : i = M 9 0 <;> simp only [qq, if_true, if_false, true_or, or_true, true_and, and_true] <;> first | omega | (have := ht i q1 (by omega); omega)) | (simp; done))

