theorem b_insN {W W2 : bW} (h : b_sbs W W2 = true) {c : Nat} {i : Int} (hi : b_ins W2 c i = false) : b_ins W c i = false := by
  rw [← Bool.not_eq_true]; intro q
  rw [b_sbs_ins h q] at hi
  exact absurd hi (by decide)
/-- where reading an ACT may write, both sides -/
def W_rdf : bW := W_aM ++ (W_aR ++ (W_X12_a0 ++ [(1, some 1)]))
/-- where act may write, both sides -/
def W_act : bW := [(1, some 1), (1, some 2), (1, some 3), (1, some 4), (1, some 5), (1, some 6), (1, some 7), (1, some 8), (4, some 0), (4, some 8), (4, some 9), (4, some 10), (4, some 11), (6, some 5), (11, some 1), (11, some 2), (11, some 3), (11, some 4), (11, some 5), (11, some 6), (11, some 7), (11, some 8), (11, some 9), (11, some 10), (11, some 32), (11, some 35), (11, some 48), (11, some 49), (11, some 50), (11, some 51), (12, none), (13, none), (14, none), (15, none), (16, none), (17, none), (18, none), (19, none), (20, none), (21, none), (22, none), (23, none), (24, none), (25, none), (26, none), (27, none), (28, none), (29, none), (30, none), (31, none), (32, none), (33, none), (34, none), (35, none), (36, none), (37, none), (38, none), (39, none), (40, none), (41, none), (42, none), (43, none), (44, none), (45, none), (46, none), (47, none), (48, none), (49, none), (50, none), (51, none), (52, none), (53, none), (54, none), (55, none), (56, none), (57, none), (58, none), (59, none), (60, none), (61, none), (62, none), (63, none), (64, none), (65, none), (66, none), (67, none), (68, none), (69, none), (70, none), (71, none), (73, none), (74, none), (75, none), (108, none), (109, none), (124, none), (125, none), (182, none), (183, none), (184, none), (185, none), (186, none), (187, none), (188, none), (189, none), (190, none), (191, none), (192, none), (193, none), (1000, none)]
theorem W_act_lo {z : Nat} {j : Int} (h : b_ins W_act z j = false) : ¬ (12 ≤ z ∧ z < 72) := by
  intro q
  have : z = 12 ∨ z = 13 ∨ z = 14 ∨ z = 15 ∨ z = 16 ∨ z = 17 ∨ z = 18 ∨ z = 19 ∨ z = 20 ∨ z = 21 ∨ z = 22 ∨ z = 23 ∨ z = 24 ∨ z = 25 ∨ z = 26 ∨ z = 27 ∨ z = 28 ∨ z = 29 ∨ z = 30 ∨ z = 31 ∨ z = 32 ∨ z = 33 ∨ z = 34 ∨ z = 35 ∨ z = 36 ∨ z = 37 ∨ z = 38 ∨ z = 39 ∨ z = 40 ∨ z = 41 ∨ z = 42 ∨ z = 43 ∨ z = 44 ∨ z = 45 ∨ z = 46 ∨ z = 47 ∨ z = 48 ∨ z = 49 ∨ z = 50 ∨ z = 51 ∨ z = 52 ∨ z = 53 ∨ z = 54 ∨ z = 55 ∨ z = 56 ∨ z = 57 ∨ z = 58 ∨ z = 59 ∨ z = 60 ∨ z = 61 ∨ z = 62 ∨ z = 63 ∨ z = 64 ∨ z = 65 ∨ z = 66 ∨ z = 67 ∨ z = 68 ∨ z = 69 ∨ z = 70 ∨ z = 71 := by omega
  rcases this with e | e | e | e | e | e | e | e | e | e | e | e | e | e | e | e | e | e | e | e | e | e | e | e | e | e | e | e | e | e | e | e | e | e | e | e | e | e | e | e | e | e | e | e | e | e | e | e | e | e | e | e | e | e | e | e | e | e | e | e <;> (subst e; exact Bool.noConfusion h)
theorem b_upN {M : bM} {c z : Nat} {i j x : Int} (h : ¬ (z = c ∧ j = i)) : b_up M c i x z j = M z j := if_neg h
/-- what stands where reading has failed, or where no ACT more can be enacted -/
theorem t_failed {M D Q : bM} {cc : Nat} (hT : R_tape M) (hwd : R_wd M) (hRu : R_rules M) (hPr : R_prog M) (hCo : R_code M) (hWt : R_wts M) (hEv : R_ev M) (hP : R_pap M) (hS : R_sign M) (hW0 : R_w0 M) (hN3 : N3 M) (hz : R_z0 M) (hcc : (cc : Int) = 13 + M 4 0) (fm : Fm cc M D) (fb : Fb (b_up D 1 1 0) Q) (ff : D 1 5 = Q 11 8 ∧ D 1 6 = Q 11 9) : A_out Q ∧ b_fr W_act M Q := by
  have m1 := hRu.1
  obtain ⟨fb1, fb2, fb3, fb4, fb5, fb6, fb7, fb8⟩ := fb
  have kM : ∀ (z : Nat) (j : Int), b_ins W_rdf z j = false → ¬ (12 ≤ z ∧ z < 62 ∧ z % 10 = cc % 10 ∧ (z < 52 ∨ j ≠ 0)) → Q z j = M z j := fun z j h1 h2 => by
    have i3 : ¬ (z = 1 ∧ j = 1) := by
      rintro ⟨e1, e2⟩
      subst e1 e2
      exact absurd h1 (by decide)
    rw [fb1 z j (b_insN (by decide +kernel) h1), b_upN i3]
    exact fm z j (b_insN (by decide +kernel) h1) h2
  have dM : ∀ (z : Nat) (j : Int), 162 ≤ z → b_up D 1 1 0 z j = M z j := fun z j hz' => by
    rw [b_upc (by omega)]
    refine fm z j ?_ (by omega)
    simp [b_ins, W_aM, W_aC, W_cC, W_tC, W_sumC, W_rw]
    omega
  have kO : ∀ (z : Nat) (j : Int), 12 ≤ z → z < 72 → z % 10 ≠ cc % 10 → Q z j = M z j := fun z j h1 h2 h3 => by
    refine kM z j ?_ (by omega)
    simp [b_ins, W_rdf, W_aM, W_aC, W_cC, W_tC, W_sumC, W_rw, W_aR, W_pR, W_cR, W_tR, W_X12_a0, W_X12_take]
    omega
  have k183 : ∀ j, j < 88 ∨ 99 ≤ j → Q 183 j = M 183 j := fun j hj => (fb6 j hj).trans (dM 183 j (by decide))
  have o4 : ∀ j, j < 192 → (Q 184 j = M 184 j ∧ Q 185 j = M 185 j) ∧ Q 187 j = M 187 j := fun j hj => ⟨⟨(fb2 j hj).1.1.trans (dM 184 j (by decide)), (fb2 j hj).1.2.trans (dM 185 j (by decide))⟩, (fb2 j hj).2.2.trans (dM 187 j (by decide))⟩
  have o8 : ∀ j, j < 19200 → Q 188 j = M 188 j := fun j hj => (fb3 j hj).trans (dM 188 j (by decide))
  have o9 : ∀ j, j < 2304 → Q 189 j = M 189 j ∧ Q 190 j = M 190 j ∧ Q 191 j = M 191 j := fun j hj => ⟨(fb4 j hj).1.trans (dM 189 j (by decide)), (fb4 j hj).2.1.trans (dM 190 j (by decide)), (fb4 j hj).2.2.trans (dM 191 j (by decide))⟩
  have o2 : ∀ j, j < 13824 → Q 192 j = M 192 j ∧ Q 193 j = M 193 j := fun j hj => ⟨(fb5 j hj).1.trans (dM 192 j (by decide)), (fb5 j hj).2.trans (dM 193 j (by decide))⟩
  have zr : ∀ (z : Nat) (j : Int), z = 194 ∨ z = 205 ∨ z = 206 ∨ z = 207 → Q z j = M z j := fun z j h => by
    rcases h with e | e | e | e <;> (subst e; exact kM _ j rfl (by omega))
  have q40 : Q 4 0 = M 4 0 := kM 4 0 (by decide) (by omega)
  have q50 : Q 5 0 = M 5 0 := kM 5 0 (by decide) (by omega)
  have fr : b_fr W_act M Q := fun z j h => kM z j (b_insN (by decide +kernel) h) (fun q => W_act_lo h ⟨q.1, by omega⟩)
  have k2 : ∀ (z : Nat) (j : Int), z = 72 ∨ z = 162 ∨ z = 104 ∨ z = 105 ∨ z = 106 ∨ z = 124 → Q z j = M z j := fun z j h => by
    rcases h with e | e | e | e | e | e <;> (subst e; exact kM _ j rfl (by omega))
  obtain ⟨r1, r2, r3⟩ := t_keepF (Z := Q) hRu hPr hCo hcc q40 (kM 11 35 (by decide) (by omega)) kO (fun j => kM 1000 j rfl (by omega)) (fun j => kM 182 j rfl (by omega)) k183 o4 o8 o9 o2
  have sb : Sb2 M Q := fun c i hc => by
    refine kM c i (b_dis_ins (W := W_rdf) (W2 := S_sq2) (by decide +kernel) hc) ?_
    intro q
    have : ¬ (12 ≤ c ∧ c < 62) := by
      intro q2
      simp [b_ins, S_sq2] at hc
      omega
    omega
  have hs0 := hS.1
  refine ⟨⟨⟨?_, ?_, ?_, ?_, ?_⟩, r1, r2, r3, t_wtsF hRu hPr hWt q50 q40 (fun j => k2 124 j (by omega)) k183 o4 o8 o9 o2 zr, ?_, fun k k0 k1 => ?_, ?_, fb8 (fun j => by rw [dM 193 j (by decide)]; exact hN3 j), fun a ha => ?_, ?_, ?_⟩, fr⟩
  · rw [fb7, fb1 1 1 (by decide), b_ups]
  · rw [fb1 1 1 (by decide), b_ups]; decide
  · rw [fb1 1 1 (by decide), b_ups]; decide
  · rw [show Q 162 = M 162 from funext fun j => k2 162 j (by omega), show Q 72 = M 72 from funext fun j => k2 72 j (by omega)]; exact hT.2.2.2.1
  · intro i; rw [k2 72 i (by omega)]; exact hT.2.2.2.2 i
  · refine sr_ev (M := M) ⟨sb, hs0.1, fun k k0 k1 => ⟨fun d => sr_cant sb (fun p _ _ => kM 163 p rfl (by omega)) (fun l _ _ => ⟨kM 170 l rfl (by omega), kM 171 l rfl (by omega)⟩) hP hS ⟨k0, k1⟩ d, fun d => ?_⟩, sr_rule sb hRu k183⟩ (fun c i hc => ?_) hEv
    · have r := x_act_r (d := d) hRu
      exact x_wtF hRu hPr ⟨r.1, r.2.1⟩ k183 o4 o8 o9 o2 zr
    · refine kM c i (b_dis_ins (W := W_rdf) (W2 := S_ev0) (by decide +kernel) hc) ?_
      intro q
      simp [b_ins, S_ev0] at hc
      omega
  · rw [k2 124 _ (by omega)]; exact hW0 k k0 k1
  · unfold R_wd at hwd ⊢
    rw [show Q 104 = M 104 from funext fun j => k2 104 j (by omega), show Q 105 = M 105 from funext fun j => k2 105 j (by omega), show Q 106 = M 106 from funext fun j => k2 106 j (by omega)]
    exact hwd
  · rw [kM (52 + a) 0 ?_ (by omega)]
    · exact hz a ha
    · simp [b_ins, W_rdf, W_aM, W_aC, W_cC, W_tC, W_sumC, W_rw, W_aR, W_pR, W_cR, W_tR, W_X12_a0, W_X12_take]
      omega
  · rw [fb1 1 5 (by decide), b_upi (by decide)]; exact ff.1
  · rw [fb1 1 6 (by decide), b_upi (by decide)]; exact ff.2
