/-! a proof, its rows moved or kept -/
theorem Tc_m {R Q : bM} {cc dd : Int → Int} {q t u : Int} (h1 : Q 192 u = R 192 t ∧ Q 193 u = R 193 t) (h2 : dd q = cc q) (h : Tc R cc q t) : Tc Q dd q u := by
  unfold Tc at h ⊢
  rw [h1.1, h1.2, h2]
  exact h
theorem Sc_m {R Q : bM} {cc dd : Int → Int} {q f w m : Int} (h1 : ∀ j, 0 ≤ j → j < 3 → Q 192 (w + j) = R 192 (f + j) ∧ Q 193 (w + j) = R 193 (f + j)) (h2 : ∀ x, q ≤ x → x < q + 2 * m - 1 → dd x = cc x) (h : Sc R cc q f m) : Sc Q dd q w m := by
  obtain ⟨m1, a, b, d⟩ := h
  have h10 := h1 0 (by decide) (by decide)
  rw [show w + 0 = w by omega, show f + 0 = f by omega] at h10
  refine ⟨m1, Tc_m h10 (h2 q (by omega) (by omega)) a, fun z => ⟨Tc_m (h1 1 (by decide) (by decide)) (h2 _ (by omega) (by omega)) (b z).1, ?_⟩, fun z => ⟨Tc_m (h1 2 (by decide) (by decide)) (h2 _ (by omega) (by omega)) (d z).1, ?_⟩⟩
  · rw [h2 _ (by omega) (by omega)]; exact (b z).2
  · rw [h2 _ (by omega) (by omega)]; exact (d z).2
theorem Xc_m {R Q : bM} {cc dd : Int → Int} {q t u : Int} (h0 : Q 189 u = R 189 t ∧ Q 190 u = R 190 t ∧ Q 191 u = R 191 t) (h1 : ∀ j, 0 ≤ j → j < 6 → Q 192 (6 * u + j) = R 192 (6 * t + j) ∧ Q 193 (6 * u + j) = R 193 (6 * t + j)) (h2 : ∀ x, q ≤ x → x < q + x_ln R t → dd x = cc x) (h : Xc R cc q t) : Xc Q dd q u := by
  obtain ⟨a, b⟩ := h
  unfold x_ln at h2
  have m1 := a.1
  unfold Xc
  rw [h0.1, h0.2.1, h0.2.2]
  rcases b with b | ⟨b1, b2, b3⟩
  · rw [if_pos b.1] at h2
    refine ⟨Sc_m (fun j j1 j2 => h1 j j1 (by omega)) (fun x hx0 hx => h2 x (by omega) (by omega)) a, Or.inl ⟨b.1, ?_⟩⟩
    rw [h2 _ (by omega) (by omega)]; exact b.2
  · rw [if_neg (by omega)] at h2
    have m2 := b2.1
    refine ⟨Sc_m (fun j j1 j2 => h1 j j1 (by omega)) (fun x hx0 hx => h2 x (by omega) (by omega)) a, Or.inr ⟨b1, Sc_m (fun j j1 j2 => ?_) (fun x hx0 hx => h2 x (by omega) (by omega)) b2, ?_⟩⟩
    · rw [show 6 * u + 3 + j = 6 * u + (3 + j) by omega, show 6 * t + 3 + j = 6 * t + (3 + j) by omega]
      exact h1 (3 + j) (by omega) (by omega)
    · rw [h2 _ (by omega) (by omega)]; exact b3
theorem Pc_mv {R Q : bM} {cc dd : Int → Int} {s e p r : Int} (hP : Pc R cc s e p) (hW : W_prog R p) (h5 : Q 185 r = R 185 p) (h7 : Q 187 r = R 187 p) (h8 : ∀ m, 0 ≤ m → m < 100 → Q 188 (100 * r + m) = R 188 (100 * p + m)) (h9 : ∀ t, 0 ≤ t → t < 12 → Q 189 (12 * r + t) = R 189 (12 * p + t) ∧ Q 190 (12 * r + t) = R 190 (12 * p + t) ∧ Q 191 (12 * r + t) = R 191 (12 * p + t)) (h2 : ∀ j, 0 ≤ j → j < 72 → Q 192 (72 * r + j) = R 192 (72 * p + j) ∧ Q 193 (72 * r + j) = R 193 (72 * p + j)) (hc : ∀ x, s ≤ x → x < e → dd x = cc x) : Pc Q dd s e r ∧ W_prog Q r := by
  obtain ⟨w1, w2, w3, w4⟩ := hW
  have dep : ∀ j : Nat, (j : Int) ≤ R 187 p → x_dep Q r j = x_dep R p j := by
    intro j
    induction j with
    | zero => intro _; rfl
    | succ j ih =>
      intro hj
      rw [x_dep_s, x_dep_s, ih (by omega)]
      unfold x_d1
      rw [h8 j (by omega) (by omega)]
  have qq : ∀ j : Nat, (j : Int) ≤ R 187 p → x_q Q r j = x_q R p j := by
    intro j
    induction j with
    | zero => intro _; rfl
    | succ j ih =>
      intro hj
      rw [x_q_s, x_q_s, ih (by omega)]
      unfold x_sl
      rw [h8 j (by omega) (by omega)]
      have st := (w3 j (by omega)).1
      by_cases y : 0 ≤ R 188 (100 * p + (j : Int))
      · rw [if_pos y, if_pos y]
        have r := h9 (R 188 (100 * p + (j : Int))) y st.2
        unfold x_ln
        rw [r.1, r.2.1, r.2.2]
      · rw [if_neg y, if_neg y]
  have kn : ((R 187 p).toNat : Int) = R 187 p := by omega
  refine ⟨⟨?_, fun j hj => ?_⟩, by rw [h7]; exact w1, by rw [h5]; exact w2, fun j hj => ?_, fun z => ?_⟩
  · rw [h7, qq _ (by omega)]; exact hP.1
  · rw [h7] at hj
    have hK := hP.2 j hj
    have st := (w3 j hj).1
    have sl : x_q R p (j + 1) = x_q R p j + x_sl R p j := x_q_s
    have le := x_q_m hP ((R 187 p).toNat - (j + 1)) (j + 1) (by omega)
    rw [show j + 1 + ((R 187 p).toNat - (j + 1)) = (R 187 p).toNat by omega] at le
    have he := hP.1
    have q0 := x_q_m hP j 0 (by omega)
    rw [show 0 + j = j by omega, show x_q R p 0 = 0 from rfl] at q0
    have s1 := x_sl_r hP hj
    unfold Kc at hK ⊢
    rw [h8 j (by omega) (by omega), qq j (by omega), dep j (by omega)]
    refine ⟨fun z => ⟨?_, (hK.1 z).2⟩, fun z => ?_⟩
    · refine Xc_m (h9 _ z st.2) (fun y y1 y2 => ?_) (fun x hx0 hx => hc x (by omega) ?_) (hK.1 z).1
      · have := h2 (6 * R 188 (100 * p + (j : Int)) + y) (by omega) (by omega)
        rw [show 72 * r + (6 * R 188 (100 * p + (j : Int)) + y) = 6 * (12 * r + R 188 (100 * p + (j : Int))) + y by omega, show 72 * p + (6 * R 188 (100 * p + (j : Int)) + y) = 6 * (12 * p + R 188 (100 * p + (j : Int))) + y by omega] at this
        exact this
      · unfold x_sl at sl
        rw [if_pos z] at sl
        omega
    · rw [hc _ (by omega) (by omega)]
      exact hK.2 z
  · rw [h7] at hj
    have st := w3 j hj
    rw [h8 j (by omega) (by omega), dep j (by omega)]
    refine ⟨st.1, fun z => ?_, st.2.2⟩
    have w := st.2.1 z
    have r9 := h9 _ z st.1.2
    unfold W_test at w ⊢
    rw [r9.1, r9.2.1, r9.2.2]
    refine ⟨w.1, w.2.1, w.2.2.1, fun y y1 y2 => ?_⟩
    have := (h2 (6 * R 188 (100 * p + (j : Int)) + y) (by omega) (by omega)).2
    rw [show 72 * r + (6 * R 188 (100 * p + (j : Int)) + y) = 6 * (12 * r + R 188 (100 * p + (j : Int))) + y by omega, show 72 * p + (6 * R 188 (100 * p + (j : Int)) + y) = 6 * (12 * p + R 188 (100 * p + (j : Int))) + y by omega] at this
    rw [this]
    exact w.2.2.2 y y1 y2
  · rw [h7] at z ⊢
    rw [dep _ (by omega)]
    exact w4 z
/-- what was read is a proof -/
theorem Rl_P {c : Int → Int} {n s p : Int} {C R : bM} {i k : Nat} {T : Int} (h : Rl c n s p C R i k T 0) (h5 : 0 ≤ R 185 p ∧ R 185 p ≤ 99) (hd : 1 ≤ k → 1 ≤ x_dep R p k) : Pc R (C 108) s (C 4 9) p ∧ W_prog R p := by
  obtain ⟨h1, h2, h3, h4, h5', h6, h7, h8, h9, _, h11, h12⟩ := h
  obtain ⟨g1, g2, g3, g4⟩ := h8
  refine ⟨⟨?_, fun j hj => ?_⟩, ?_, h5, fun j hj => ?_, fun z => ?_⟩
  · rw [h7, show ((k : Int)).toNat = k by omega]; omega
  · rw [h7] at hj
    exact (g4 j (by omega)).2.2.2.2.2
  · rw [h7]; omega
  · rw [h7] at hj
    obtain ⟨s1, s2, s3, s4, s5, _⟩ := g4 j (by omega)
    exact ⟨⟨s1.1, by omega⟩, s2, s3, s4, s5⟩
  · rw [h7] at z ⊢
    rw [show ((k : Int)).toNat = k by omega]
    exact hd (by omega)
