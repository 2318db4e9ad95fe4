theorem op_pass {M : bM} {n : Int} (hday : R_day M) : b_wp (F_X11_pass n M) (fun o => b_wp (F_X12_pass n o.2) (fun o2 => o.1 = o2.1 ∧ R_day o2.2)) := by
  have hday_ := hday
  unfold R_day at hday_
  simp only [F_X12_pass, e_X12_in, F_X11_pass, b_bind_s, b_01_0]
  repeat' first
    | with_reducible refine b_Wi (fun _ => ?_) (fun _ => ?_)
    | with_reducible refine b_Wg ?_ ?_
    | with_reducible refine b_Wl ?_
    | with_reducible refine b_Wtwo ?_
    | with_reducible refine b_We (e_X12_isPerson ?_) ?_
    | with_reducible refine b_We (e_X12_isLot ?_) ?_
    | with_reducible refine b_We (e_X12_isPaper ?_) ?_
    | with_reducible refine b_We (e_X12_isMortgage ?_) ?_
    | with_reducible refine b_Wb ?_
    | with_reducible refine b_Ws ?_
  all_goals (try dsimp only)
  all_goals repeat' (with_reducible refine And.intro ?_ ?_)
  all_goals (try simp (disch := decide) only [b_upF, b_upi, b_ups, b_01_0] at *)
  all_goals first
    | omega
    | assumption
    | (exfalso; omega)
    | (unfold R_day; repeat' (with_reducible refine And.intro ?_ ?_)) <;> (try simp (disch := decide) only [b_upF, b_upi, b_ups]) <;> (first | omega | assumption)

theorem op_end {M : bM} {n : Int} (htape : R_tape M) : b_wp (F_X11_end n M) (fun o => b_wp (F_X12_end n o.2) (fun o2 => o.1 = o2.1 ∧ R_tape o2.2)) := by
  have htape_ := htape
  unfold R_tape at htape_
  obtain ⟨a1, a2, a3, a4, a5⟩ := htape_
  simp only [F_X12_end, F_X11_end, b_bind_s, b_01_0]
  repeat' first
    | with_reducible refine b_Wi (fun _ => ?_) (fun _ => ?_)
    | with_reducible refine b_Wg ?_ ?_
    | with_reducible refine b_Wl ?_
    | with_reducible refine b_Wtwo ?_
    | with_reducible refine b_We (e_X12_isPerson ?_) ?_
    | with_reducible refine b_We (e_X12_isLot ?_) ?_
    | with_reducible refine b_We (e_X12_isPaper ?_) ?_
    | with_reducible refine b_We (e_X12_isMortgage ?_) ?_
    | with_reducible refine b_Wb ?_
    | with_reducible refine b_Ws ?_
  all_goals (try dsimp only)
  all_goals repeat' (with_reducible refine And.intro ?_ ?_)
  all_goals (try simp (disch := decide) only [b_upF, b_upi, b_ups, b_01_0] at *)
  all_goals first
    | omega
    | assumption
    | (exfalso; omega)
    | (unfold R_tape; repeat' (with_reducible refine And.intro ?_ ?_)) <;> (try simp (disch := decide) only [b_upF, b_upi, b_ups]) <;> (first | omega | assumption)

theorem op_person {M : bM} {f : Int} (hppl : R_ppl M) : b_wp (F_X11_person f M) (fun o => b_wp (F_X12_person f o.2) (fun o2 => o.1 = o2.1 ∧ R_ppl o2.2)) := by
  have hppl_ := hppl
  unfold R_ppl at hppl_
  obtain ⟨⟨a1, a2, a3, a4, a5, a6⟩, ⟨e1, e2, e3, e4, e5⟩, hf, ht⟩ := hppl_
  simp only [F_X12_person, e_X12_isDay, F_X11_person, F_X8_add, e_X11_isDay, b_bind_s, b_01_0]
  repeat' first
    | with_reducible refine b_Wi (fun _ => ?_) (fun _ => ?_)
    | with_reducible refine b_Wg ?_ ?_
    | with_reducible refine b_Wl ?_
    | with_reducible refine b_Wtwo ?_
    | with_reducible refine b_We (e_X12_isPerson ?_) ?_
    | with_reducible refine b_We (e_X12_isLot ?_) ?_
    | with_reducible refine b_We (e_X12_isPaper ?_) ?_
    | with_reducible refine b_We (e_X12_isMortgage ?_) ?_
    | with_reducible refine b_Wb ?_
    | with_reducible refine b_Ws ?_
  all_goals (try dsimp only)
  all_goals repeat' (with_reducible refine And.intro ?_ ?_)
  all_goals (try simp (disch := decide) only [b_upF, b_upi, b_ups, b_01_0] at *)
  all_goals first
    | omega
    | assumption
    | (exfalso; omega)
    | (unfold R_ppl; repeat' (with_reducible refine And.intro ?_ ?_)) <;> (try simp (disch := decide) only [b_upF, b_upi, b_ups]) <;> (first | omega | assumption | (rw [a1]; exact b_upE (by (try simp (disch := decide) only [b_upF, b_upi, b_ups]); exact e1)) | (intro p; rw [b_upJ]; have := hf p; split <;> omega) | (intro t q1 q2; have := ht t q1 q2; omega))

theorem op_dead {M : bM} {p f : Int} (hday : R_day M) (hppl : R_ppl M) : b_wp (F_X11_dead p f M) (fun o => b_wp (F_X12_dead p f o.2) (fun o2 => o.1 = o2.1 ∧ R_ppl o2.2)) := by
  have hday_ := hday
  unfold R_day at hday_
  have hppl_ := hppl
  unfold R_ppl at hppl_
  obtain ⟨⟨a1, a2, a3, a4, a5, a6⟩, ⟨e1, e2, e3, e4, e5⟩, hf, ht⟩ := hppl_
  by_cases c0 : 0 ≤ p ∧ p < M 2 0 ∧ 0 ≤ f ∧ f ≤ 9999
  by_cases c1 : M 2 1 < 400
  all_goals (simp (disch := ((try simp (disch := decide) only [b_upF, b_upi, b_ups]); omega)) only [F_X11_dead, F_X8_tell, F_X4_forget, e_X11_isDay, e_X8_has, b_bind_s, b_let_s, b_two_s, b_g_s, b_01_0, b_upF, b_ups, b_upi, b_wp_s, b_it2, b_it3, b_it4, b_it5, if_pos, if_neg])
  all_goals (simp (disch := ((try simp (disch := decide) only [b_upF, b_upi, b_ups]); omega)) only [F_X12_dead, F_X12_tell, e_X12_isDay, e_X12_isPerson, b_bind_s, b_let_s, b_two_s, b_g_s, b_01_0, b_upF, b_ups, b_upi, b_wp_s, b_it2, b_it3, b_it4, b_it5, if_pos, if_neg])
  all_goals repeat' (with_reducible refine And.intro ?_ ?_)
  all_goals first
    | omega
    | trivial
    | (exfalso; omega)
    | (unfold R_ppl; repeat' (with_reducible refine And.intro ?_ ?_)) <;> (try simp (disch := decide) only [b_upF, b_upi, b_ups]) <;> (first | omega | assumption | (rw [a4]; exact b_upE (by (try simp (disch := decide) only [b_upF, b_upi, b_ups]); exact e2)) | (rw [a4]; exact b_upE (by (try simp (disch := decide) only [b_upF, b_upi, b_ups]); exact e3)) | (rw [a4]; exact b_upE (by (try simp (disch := decide) only [b_upF, b_upi, b_ups]); exact e4)) | (rw [a4, hday_.1]; exact b_upE (by (try simp (disch := decide) only [b_upF, b_upi, b_ups]); exact e5)) | (intro t q1 q2; simp (disch := decide) only [b_upJ, b_upF]; by_cases qq : t = M 2 1 <;> simp only [qq, if_true, if_false] <;> first | omega | (have := ht t q1 (by omega); omega)))

theorem op_same {M : bM} {p q : Int} (hday : R_day M) (hppl : R_ppl M) : b_wp (F_X11_same p q M) (fun o => b_wp (F_X12_same p q o.2) (fun o2 => o.1 = o2.1 ∧ R_ppl o2.2)) := by
  have hday_ := hday
  unfold R_day at hday_
  have hppl_ := hppl
  unfold R_ppl at hppl_
  obtain ⟨⟨a1, a2, a3, a4, a5, a6⟩, ⟨e1, e2, e3, e4, e5⟩, hf, ht⟩ := hppl_
  by_cases c0 : 0 ≤ p ∧ p < M 2 0 ∧ 0 ≤ q ∧ q < M 2 0 ∧ p ≠ q
  by_cases c1 : M 2 1 < 400
  all_goals (simp (disch := ((try simp (disch := decide) only [b_upF, b_upi, b_ups]); omega)) only [F_X11_same, F_X11_tellOfTwo, F_X8_tell, F_X4_forget, e_X8_has, b_bind_s, b_let_s, b_two_s, b_g_s, b_01_0, b_upF, b_ups, b_upi, b_wp_s, b_it2, b_it3, b_it4, b_it5, if_pos, if_neg])
  all_goals (simp (disch := ((try simp (disch := decide) only [b_upF, b_upi, b_ups]); omega)) only [F_X12_same, F_X12_tell, e_X12_isPair, b_bind_s, b_let_s, b_two_s, b_g_s, b_01_0, b_upF, b_ups, b_upi, b_wp_s, b_it2, b_it3, b_it4, b_it5, if_pos, if_neg])
  all_goals repeat' (with_reducible refine And.intro ?_ ?_)
  all_goals first
    | omega
    | trivial
    | (exfalso; omega)
    | (unfold R_ppl; repeat' (with_reducible refine And.intro ?_ ?_)) <;> (try simp (disch := decide) only [b_upF, b_upi, b_ups]) <;> (first | omega | assumption | (rw [a4]; exact b_upE (by (try simp (disch := decide) only [b_upF, b_upi, b_ups]); exact e2)) | (rw [a4]; exact b_upE (by (try simp (disch := decide) only [b_upF, b_upi, b_ups]); exact e3)) | (rw [a4]; exact b_upE (by (try simp (disch := decide) only [b_upF, b_upi, b_ups]); exact e4)) | (rw [a4, hday_.1]; exact b_upE (by (try simp (disch := decide) only [b_upF, b_upi, b_ups]); exact e5)) | (intro t q1 q2; simp (disch := decide) only [b_upJ, b_upF]; by_cases qq : t = M 2 1 <;> simp only [qq, if_true, if_false] <;> first | omega | (have := ht t q1 (by omega); omega)))

theorem op_apart {M : bM} {p q : Int} (hday : R_day M) (hppl : R_ppl M) : b_wp (F_X11_apart p q M) (fun o => b_wp (F_X12_apart p q o.2) (fun o2 => o.1 = o2.1 ∧ R_ppl o2.2)) := by
  have hday_ := hday
  unfold R_day at hday_
  have hppl_ := hppl
  unfold R_ppl at hppl_
  obtain ⟨⟨a1, a2, a3, a4, a5, a6⟩, ⟨e1, e2, e3, e4, e5⟩, hf, ht⟩ := hppl_
  by_cases c0 : 0 ≤ p ∧ p < M 2 0 ∧ 0 ≤ q ∧ q < M 2 0 ∧ p ≠ q
  by_cases c1 : M 2 1 < 400
  all_goals (simp (disch := ((try simp (disch := decide) only [b_upF, b_upi, b_ups]); omega)) only [F_X11_apart, F_X11_tellOfTwo, F_X8_tell, F_X4_forget, e_X8_has, b_bind_s, b_let_s, b_two_s, b_g_s, b_01_0, b_upF, b_ups, b_upi, b_wp_s, b_it2, b_it3, b_it4, b_it5, if_pos, if_neg])
  all_goals (simp (disch := ((try simp (disch := decide) only [b_upF, b_upi, b_ups]); omega)) only [F_X12_apart, F_X12_tell, e_X12_isPair, b_bind_s, b_let_s, b_two_s, b_g_s, b_01_0, b_upF, b_ups, b_upi, b_wp_s, b_it2, b_it3, b_it4, b_it5, if_pos, if_neg])
  all_goals repeat' (with_reducible refine And.intro ?_ ?_)
  all_goals first
    | omega
    | trivial
    | (exfalso; omega)
    | (unfold R_ppl; repeat' (with_reducible refine And.intro ?_ ?_)) <;> (try simp (disch := decide) only [b_upF, b_upi, b_ups]) <;> (first | omega | assumption | (rw [a4]; exact b_upE (by (try simp (disch := decide) only [b_upF, b_upi, b_ups]); exact e2)) | (rw [a4]; exact b_upE (by (try simp (disch := decide) only [b_upF, b_upi, b_ups]); exact e3)) | (rw [a4]; exact b_upE (by (try simp (disch := decide) only [b_upF, b_upi, b_ups]); exact e4)) | (rw [a4, hday_.1]; exact b_upE (by (try simp (disch := decide) only [b_upF, b_upi, b_ups]); exact e5)) | (intro t q1 q2; simp (disch := decide) only [b_upJ, b_upF]; by_cases qq : t = M 2 1 <;> simp only [qq, if_true, if_false] <;> first | omega | (have := ht t q1 (by omega); omega)))

theorem op_child {M : bM} {p q : Int} (hday : R_day M) (hppl : R_ppl M) : b_wp (F_X11_child p q M) (fun o => b_wp (F_X12_child p q o.2) (fun o2 => o.1 = o2.1 ∧ R_ppl o2.2)) := by
  have hday_ := hday
  unfold R_day at hday_
  have hppl_ := hppl
  unfold R_ppl at hppl_
  obtain ⟨⟨a1, a2, a3, a4, a5, a6⟩, ⟨e1, e2, e3, e4, e5⟩, hf, ht⟩ := hppl_
  by_cases c0 : 0 ≤ p ∧ p < M 2 0 ∧ 0 ≤ q ∧ q < M 2 0 ∧ p ≠ q
  by_cases c1 : M 2 1 < 400
  all_goals (simp (disch := ((try simp (disch := decide) only [b_upF, b_upi, b_ups]); omega)) only [F_X11_child, F_X11_tellOfTwo, F_X8_tell, F_X4_forget, e_X8_has, b_bind_s, b_let_s, b_two_s, b_g_s, b_01_0, b_upF, b_ups, b_upi, b_wp_s, b_it2, b_it3, b_it4, b_it5, if_pos, if_neg])
  all_goals (simp (disch := ((try simp (disch := decide) only [b_upF, b_upi, b_ups]); omega)) only [F_X12_child, F_X12_tell, e_X12_isPair, b_bind_s, b_let_s, b_two_s, b_g_s, b_01_0, b_upF, b_ups, b_upi, b_wp_s, b_it2, b_it3, b_it4, b_it5, if_pos, if_neg])
  all_goals repeat' (with_reducible refine And.intro ?_ ?_)
  all_goals first
    | omega
    | trivial
    | (exfalso; omega)
    | (unfold R_ppl; repeat' (with_reducible refine And.intro ?_ ?_)) <;> (try simp (disch := decide) only [b_upF, b_upi, b_ups]) <;> (first | omega | assumption | (rw [a4]; exact b_upE (by (try simp (disch := decide) only [b_upF, b_upi, b_ups]); exact e2)) | (rw [a4]; exact b_upE (by (try simp (disch := decide) only [b_upF, b_upi, b_ups]); exact e3)) | (rw [a4]; exact b_upE (by (try simp (disch := decide) only [b_upF, b_upi, b_ups]); exact e4)) | (rw [a4, hday_.1]; exact b_upE (by (try simp (disch := decide) only [b_upF, b_upi, b_ups]); exact e5)) | (intro t q1 q2; simp (disch := decide) only [b_upJ, b_upF]; by_cases qq : t = M 2 1 <;> simp only [qq, if_true, if_false] <;> first | omega | (have := ht t q1 (by omega); omega)))

