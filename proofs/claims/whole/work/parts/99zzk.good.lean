/-! the steps of a proof, class and reference, while they are being read -/
def Ag (R Q : bM) (p : Int) (k : Nat) (T : Int) : Prop := (∀ m : Nat, m < k → Q 188 (100 * p + m) = R 188 (100 * p + m)) ∧ ∀ t, 0 ≤ t → t < T → (Q 189 (12 * p + t) = R 189 (12 * p + t) ∧ Q 190 (12 * p + t) = R 190 (12 * p + t) ∧ Q 191 (12 * p + t) = R 191 (12 * p + t)) ∧ ∀ j, 6 * (12 * p + t) ≤ j → j < 6 * (12 * p + t) + 6 → Q 192 j = R 192 j ∧ Q 193 j = R 193 j
def Spt (R : bM) (cc : Int → Int) (s p T : Int) (j : Nat) : Prop := (-3 ≤ R 188 (100 * p + j) ∧ R 188 (100 * p + j) < T) ∧ (0 ≤ R 188 (100 * p + j) → W_test R (12 * p + R 188 (100 * p + j))) ∧ (R 188 (100 * p + j) = -3 → 1 ≤ x_dep R p j) ∧ (R 188 (100 * p + j) = -1 → 2 ≤ x_dep R p j) ∧ (R 188 (100 * p + j) = -2 → 2 ≤ x_dep R p j) ∧ Kc R cc s p j
def Gdd (R : bM) (cc : Int → Int) (s p T : Int) (k : Nat) : Prop := (0 ≤ T ∧ T ≤ 12) ∧ (k : Int) ≤ 8 * T ∧ (0 ≤ x_dep R p k ∧ x_dep R p k ≤ T) ∧ ∀ j : Nat, j < k → Spt R cc s p T j
theorem Ag_r {R : bM} {p : Int} {k : Nat} {T : Int} : Ag R R p k T := ⟨fun _ _ => rfl, fun _ _ _ => ⟨⟨rfl, rfl, rfl⟩, fun _ _ _ => ⟨rfl, rfl⟩⟩⟩
theorem Ag_w {W : bW} {R Q : bM} {p : Int} {k : Nat} {T : Int} (f : b_fr W R Q) (d : b_dis W [(188, none), (189, none), (190, none), (191, none), (192, none), (193, none)] = true) : Ag R Q p k T := by
  have h := b_kp1 f d
  exact ⟨fun m _ => h 188 _ rfl, fun t _ _ => ⟨⟨h 189 _ rfl, h 190 _ rfl, h 191 _ rfl⟩, fun j _ _ => ⟨h 192 j rfl, h 193 j rfl⟩⟩⟩
theorem Ag_dep {R Q : bM} {p : Int} {k : Nat} {T : Int} (h : Ag R Q p k T) : ∀ j : Nat, j ≤ k → x_dep Q p j = x_dep R p j := by
  intro j
  induction j with
  | zero => intro _; rfl
  | succ j ih =>
    intro hj
    rw [x_dep_s, x_dep_s, ih (by omega)]
    unfold x_d1
    rw [h.1 j (by omega)]
theorem Ag_q {R Q : bM} {cc : Int → Int} {s p : Int} {k : Nat} {T : Int} (h : Ag R Q p k T) (hS : ∀ j : Nat, j < k → Spt R cc s p T j) : ∀ j : Nat, j ≤ k → x_q Q p j = x_q R p j := by
  intro j
  induction j with
  | zero => intro _; rfl
  | succ j ih =>
    intro hj
    rw [x_q_s, x_q_s, ih (by omega)]
    unfold x_sl
    rw [h.1 j (by omega)]
    have st := (hS j (by omega)).1
    by_cases y : 0 ≤ R 188 (100 * p + (j : Int))
    · rw [if_pos y, if_pos y]
      have r := (h.2 (R 188 (100 * p + (j : Int))) y st.2).1
      unfold x_ln
      rw [r.1, r.2.1, r.2.2]
    · rw [if_neg y, if_neg y]
theorem Tc_c {R Q : bM} {cc dd : Int → Int} {q t : Int} (h1 : Q 192 t = R 192 t ∧ Q 193 t = R 193 t) (h2 : dd q = cc q) (h : Tc R cc q t) : Tc Q dd q t := by
  unfold Tc at h ⊢
  rw [h1.1, h1.2, h2]
  exact h
theorem Sc_c {R Q : bM} {cc dd : Int → Int} {q f m : Int} (h1 : ∀ j, f ≤ j → j < f + 3 → Q 192 j = R 192 j ∧ Q 193 j = R 193 j) (h2 : ∀ x, x < q + 2 * m - 1 → dd x = cc x) (h : Sc R cc q f m) : Sc Q dd q f m := by
  obtain ⟨m1, a, b, d⟩ := h
  refine ⟨m1, Tc_c (h1 f (by omega) (by omega)) (h2 q (by omega)) a, fun z => ⟨Tc_c (h1 _ (by omega) (by omega)) (h2 _ (by omega)) (b z).1, ?_⟩, fun z => ⟨Tc_c (h1 _ (by omega) (by omega)) (h2 _ (by omega)) (d z).1, ?_⟩⟩
  · rw [h2 _ (by omega)]; exact (b z).2
  · rw [h2 _ (by omega)]; exact (d z).2
theorem Xc_ln {R : bM} {cc : Int → Int} {q t : Int} (h : Xc R cc q t) : 1 ≤ x_ln R t := by
  obtain ⟨⟨⟨h1, _⟩, _⟩, h2⟩ := h
  unfold x_ln
  rcases h2 with y | y
  · rw [if_pos y.1]; omega
  · rw [if_neg (by omega)]; have := y.2.1.1; omega
theorem Xc_c {R Q : bM} {cc dd : Int → Int} {q t : Int} (h0 : Q 189 t = R 189 t ∧ Q 190 t = R 190 t ∧ Q 191 t = R 191 t) (h1 : ∀ j, 6 * t ≤ j → j < 6 * t + 6 → Q 192 j = R 192 j ∧ Q 193 j = R 193 j) (h2 : ∀ x, x < q + x_ln R t → dd x = cc x) (h : Xc R cc q t) : Xc Q dd q t := by
  obtain ⟨a, b⟩ := h
  unfold x_ln at h2
  have m1 := a.1
  unfold Xc
  rw [h0.1, h0.2.1, h0.2.2]
  rcases b with b | ⟨b1, b2, b3⟩
  · rw [if_pos b.1] at h2
    refine ⟨Sc_c (fun j j1 j2 => h1 j j1 (by omega)) (fun x hx => h2 x (by omega)) a, Or.inl ⟨b.1, ?_⟩⟩
    rw [h2 _ (by omega)]; exact b.2
  · rw [if_neg (by omega)] at h2
    have m2 := b2.1
    refine ⟨Sc_c (fun j j1 j2 => h1 j j1 (by omega)) (fun x hx => h2 x (by omega)) a, Or.inr ⟨b1, Sc_c (fun j j1 j2 => h1 j (by omega) (by omega)) (fun x hx => h2 x (by omega)) b2, ?_⟩⟩
    rw [h2 _ (by omega)]; exact b3
theorem Spt_sl {R : bM} {cc : Int → Int} {s p T : Int} {j : Nat} (h : Spt R cc s p T j) : 1 ≤ x_sl R p j := by
  unfold x_sl
  by_cases a : 0 ≤ R 188 (100 * p + (j : Int))
  · rw [if_pos a]
    exact Xc_ln (h.2.2.2.2.2.1 a).1
  · rw [if_neg a]; omega
theorem Spt_qm {R : bM} {cc : Int → Int} {s p T : Int} {k : Nat} (hS : ∀ j : Nat, j < k → Spt R cc s p T j) : ∀ n i : Nat, i + n ≤ k → x_q R p i + n ≤ x_q R p (i + n) := by
  intro n
  induction n with
  | zero => intro i _; rw [show i + 0 = i by omega]; omega
  | succ n ih =>
    intro i h
    have h1 := ih i (by omega)
    have h2 := Spt_sl (hS (i + n) (by omega))
    rw [show i + (n + 1) = i + n + 1 by omega, x_q_s]
    omega
theorem Spt_c {R Q : bM} {cc dd : Int → Int} {s p : Int} {k : Nat} {T U : Int} (h : Ag R Q p k T) (hU : T ≤ U) (hS : ∀ j : Nat, j < k → Spt R cc s p T j) (hc : ∀ x, x < s + x_q R p k → dd x = cc x) : ∀ j : Nat, j < k → Spt Q dd s p U j := by
  intro j hj
  have eq := Ag_q h hS j (by omega)
  have ed := Ag_dep h j (by omega)
  obtain ⟨s1, s2, s3, s4, s5, s6, s7⟩ := hS j hj
  have le := Spt_qm hS (k - (j + 1)) (j + 1) (by omega)
  rw [show j + 1 + (k - (j + 1)) = k by omega] at le
  have sl : x_q R p (j + 1) = x_q R p j + x_sl R p j := x_q_s
  have sp := Spt_sl (hS j hj)
  unfold Spt Kc
  rw [h.1 j hj, eq, ed]
  refine ⟨⟨s1.1, by omega⟩, fun z => ?_, s3, s4, s5, fun z => ⟨?_, (s6 z).2⟩, fun z => ?_⟩
  · obtain ⟨r1, r2⟩ := h.2 _ z s1.2
    have w := s2 z
    unfold W_test at w ⊢
    rw [r1.1, r1.2.1, r1.2.2]
    refine ⟨w.1, w.2.1, w.2.2.1, fun y y1 y2 => ?_⟩
    rw [(r2 _ (by omega) (by omega)).2]
    exact w.2.2.2 y y1 y2
  · obtain ⟨r1, r2⟩ := h.2 _ z s1.2
    refine Xc_c r1 r2 (fun x hx => hc x ?_) (s6 z).1
    unfold x_sl at sl
    rw [if_pos z] at sl
    omega
  · rw [hc _ (by omega)]
    exact s7 z
theorem Gdd_ext {R Q : bM} {cc dd : Int → Int} {s p T : Int} {k : Nat} (g : Gdd R cc s p T k) (h : Ag R Q p k T) (hc : ∀ x, x < s + x_q R p k → dd x = cc x) : Gdd Q dd s p T k ∧ x_q Q p k = x_q R p k ∧ x_dep Q p k = x_dep R p k := by
  obtain ⟨g1, g2, g3, g4⟩ := g
  have ed := Ag_dep h k (Nat.le_refl k)
  exact ⟨⟨g1, g2, by rw [ed]; exact g3, Spt_c h (Int.le_refl T) g4 hc⟩, Ag_q h g4 k (Nat.le_refl k), ed⟩
theorem Gdd_add {R Q : bM} {cc dd : Int → Int} {s p T U y : Int} {k : Nat} (g : Gdd R cc s p T k) (h : Ag R Q p k T) (hc : ∀ x, x < s + x_q R p k → dd x = cc x) (hU : T ≤ U ∧ U ≤ 12) (hk : (k : Int) + 1 ≤ 8 * U) (hy : Q 188 (100 * p + k) = y) (y1 : -3 ≤ y ∧ y < U) (y2 : 0 ≤ y → U = T + 1 ∧ W_test Q (12 * p + y) ∧ Xc Q dd (s + x_q R p k) (12 * p + y)) (y3 : y < 0 → (if y = -3 then 1 else 2) ≤ x_dep R p k ∧ dd (s + x_q R p k) = x_enc 0 (x_oc y)) : Gdd Q dd s p U (k + 1) ∧ x_q Q p (k + 1) = x_q R p k + (if 0 ≤ y then x_ln Q (12 * p + y) else 1) ∧ x_dep Q p (k + 1) = (if 0 ≤ y then x_dep R p k + 1 else if y = -3 then x_dep R p k else x_dep R p k - 1) := by
  obtain ⟨g1, g2, g3, g4⟩ := g
  have ed := Ag_dep h k (Nat.le_refl k)
  have eq := Ag_q h g4 k (Nat.le_refl k)
  have st := Spt_c h hU.1 g4 hc
  have e1 : x_q Q p (k + 1) = x_q R p k + (if 0 ≤ y then x_ln Q (12 * p + y) else 1) := by
    rw [x_q_s, eq]
    unfold x_sl
    rw [hy]
  have e2 : x_dep Q p (k + 1) = (if 0 ≤ y then x_dep R p k + 1 else if y = -3 then x_dep R p k else x_dep R p k - 1) := by
    rw [x_dep_s, ed]
    unfold x_d1
    rw [hy]
  refine ⟨⟨⟨by omega, hU.2⟩, by omega, ?_, fun j hj => ?_⟩, e1, e2⟩
  · rw [e2]
    by_cases z : 0 ≤ y
    · rw [if_pos z]; have := y2 z; omega
    · have w := (y3 (by omega)).1
      rw [if_neg z]
      by_cases z2 : y = -3
      · rw [if_pos z2] at w ⊢; omega
      · rw [if_neg z2] at w ⊢; omega
  · by_cases ej : j = k
    · subst ej
      unfold Spt Kc
      rw [hy, eq, ed]
      refine ⟨y1, fun z => (y2 z).2.1, fun z => ?_, fun z => ?_, fun z => ?_, fun z => ⟨(y2 z).2.2, by have := (y2 z).1; omega⟩, fun z => (y3 z).2⟩
      · have w := (y3 (by omega)).1; rw [if_pos z] at w; exact w
      · have w := (y3 (by omega)).1; rw [if_neg (by omega)] at w; exact w
      · have w := (y3 (by omega)).1; rw [if_neg (by omega)] at w; exact w
    · exact st j (by omega)
