/-! a TEST, class and reference together -/
theorem Tc_of {c cc : Int → Int} {n : Int} {R : bM} {i : Nat} {q t : Int} (hB : z_B c n) (tk : Tk c i) (tr : Tr c R t i) (e : cc q = Te c i) : Tc R cc q t := by
  unfold Tr at tr
  unfold Te at e
  by_cases k2 : kT c i = 2
  · rw [if_pos k2] at tr e
    rw [if_pos k2] at tr
    refine Or.inl ⟨tr.1, ?_, ?_⟩
    · rw [tr.2]; exact t_v_2 hB k2
    · rw [tr.2]; exact e
  · rw [if_neg k2] at tr e
    rw [if_neg k2] at tr
    have k1 : kT c i = 1 := by
      rcases tk with z | z
      · exact absurd z k2
      · exact z.1
    refine Or.inr ⟨?_, tr.2, ?_⟩
    · rw [tr.1]; exact vT_w hB k1
    · rw [tr.1]; exact e
theorem Sc_of {c : Int → Int} {n : Int} {C R : bM} {i : Nat} {b f a : Int} (hB : z_B c n) (ha : 1 ≤ a ∧ a ≤ 3) (sk : Sk c C b i a) (tk : ∀ j : Nat, (j : Int) < a → Tk c (i + 2 * j)) (tr : ∀ j : Nat, (j : Int) < a → Tr c R (f + j) (i + 2 * j)) : Sc R (C 108) b f a := by
  obtain ⟨k1, k2, k3⟩ := sk
  refine ⟨ha, ?_, fun z => ⟨?_, (k2 z).2⟩, fun z => ⟨?_, (k3 z).2⟩⟩
  · have x := tr 0 (by show (0 : Int) < a; omega)
    rw [show f + ((0 : Nat) : Int) = f by omega] at x
    exact Tc_of hB (tk 0 (by show (0 : Int) < a; omega)) x (k1 ha.1)
  · exact Tc_of hB (tk 1 (by omega)) (tr 1 (by omega)) (k2 z).1
  · exact Tc_of hB (tk 2 (by omega)) (tr 2 (by omega)) (k3 z).1
theorem To_q {c : Int → Int} {n : Int} {i i2 : Nat} {t a b op f q : Int} (hB : z_B c n) (h : To c i t a b op f q i2) (ha : 1 ≤ a) : t < 12 ∧ (a ≤ 3) ∧ ((op = 0 ∧ b = 0 ∧ (i2 : Int) = i + (2 * a - 1) ∧ qT c i + (2 * a - 1) ≤ qT c i2) ∨ ((1 ≤ op ∧ op ≤ 3) ∧ (1 ≤ b ∧ b ≤ 3) ∧ (i2 : Int) = i + (2 * a + 2 * b - 1) ∧ qT c i + (2 * a + 2 * b - 1) ≤ qT c i2)) := by
  rcases h with h | ⟨nh, a0, f0, q0, s0, h⟩
  · omega
  · rcases h with h | ⟨h0, x, px, h⟩
    · omega
    · obtain ⟨t1, t2, t3⟩ := So_tk hB s0 h0
      have tk := t2 0 (by show (0 : Int) < a0; omega)
      have t12 : t < 12 := by
        by_cases z : t < 12
        · exact z
        · exact absurd ⟨tk, by omega⟩ nh
      rcases h with ⟨x1, ea, eb, eo, _, _, ei⟩ | ⟨hx, b0, g1, r1, sb, h⟩
      · subst ea
        rw [ei]
        exact ⟨t12, t1.1, Or.inl ⟨eo, eb, by omega, t3⟩⟩
      · rcases h with h | ⟨hb0, ea, eb, eo, _, _, ei⟩
        · omega
        · subst ea eb
          obtain ⟨u1, u2, u3⟩ := So_tk hB sb hb0
          rcases px with px | ⟨j, j1, j2, j3, j4⟩
          · omega
          · have w := (qT_s (i := i + (2 * a - 1).toNat) hB).2 (by rw [j3]; decide)
            rw [ei]
            exact ⟨t12, t1.1, Or.inr ⟨by omega, ⟨hb0, u1.1⟩, by omega, by omega⟩⟩
/-- class and reference at the same TOKEN of the same proof -/
def Rl (c : Int → Int) (n s p : Int) (C R : bM) (i k : Nat) (T lg : Int) : Prop := Ct c n C i ∧ Rt c R i ∧ (i : Int) ≤ qT c i ∧ R 11 48 = p ∧ C 4 11 = T ∧ R 186 p = T ∧ R 187 p = k ∧ Gdd R (C 108) s p T k ∧ C 4 9 = s + x_q R p k + lg ∧ (lg = 0 ∨ (lg = 1 ∧ C 108 (s + x_q R p k) = x_enc 0 6)) ∧ N3 R ∧ 0 ≤ x_q R p k
theorem t_test {C R : bM} {c : Int → Int} {n s p g : Int} {i k : Nat} {T : Int} (hB : z_B c n) (h : Rl c n s p C R i k T 0) (hp2 : 192 ≤ p ∧ p < 216) (hs : 0 ≤ s) (hg : 0 ≤ g ∧ C 4 9 + g + 1 ≤ qT c i) : b_wp (F_X12_readTest R) (fun o => b_fr (W_tR ++ [(11, some 8), (11, some 9)]) R o.2 ∧ Fp p R o.2 ∧ ((o.1 = 0 ∧ ∃ D, F_X1_readTest C = some (0, D) ∧ b_fr (W_tC ++ [(1, some 5), (1, some 6)]) C D ∧ D 1 5 = o.2 11 8 ∧ D 1 6 = o.2 11 9) ∨ (o.1 = 1 ∧ T < 12 ∧ b_fr W_tR R o.2 ∧ ∃ D i2, F_X1_readTest C = some (1, D) ∧ b_fr W_tC C D ∧ (∀ q, q < s → D 108 q = C 108 q) ∧ Rl c n s p D o.2 i2 (k + 1) (T + 1) 0 ∧ x_dep o.2 p (k + 1) = x_dep R p k + 1 ∧ D 4 9 + g ≤ qT c i2 ∧ qT c i < qT c i2))) := by
  obtain ⟨h1, h2, h3, h4, h5, h6, h7, h8, h9, _, h11, h12⟩ := h
  have qn := (qT_n (i := i) hB).2
  have nn := hB.1
  obtain ⟨⟨d1, D⟩, ec, c1, a, b, op, f, q, i2, to, cc⟩ := b_wp_ex (t_testC hB h1 (by omega) h5 h8.1 ⟨by omega, by omega⟩)
  have k96 : (k : Int) ≤ 8 * T := h8.2.1
  refine b_wp_m (fun o z => ?_) (t_testR hB h2 h4 hp2 h6 h8.1 h7 ⟨by omega, by have := h8.1; omega⟩)
  obtain ⟨z1, z2, a', b', op', f', q', i2', to', z3⟩ := z
  obtain ⟨u1, u2, u3, u4⟩ := To_u to to'
  refine ⟨z1, z2, ?_⟩
  dsimp only at c1 cc
  rcases cc with ⟨ca, cd, cf, cq⟩ | ⟨ca, cd, cF, cl, ct, ci, cqq, c11, csk, ctk, cw⟩
  · rcases z3 with ⟨z3, z4, z5, z6⟩ | ⟨z3, _⟩
    · exact Or.inl ⟨z4, D, by rw [ec, cd], c1, by rw [cf, z5, u2], by rw [cq, z6, u3]⟩
    · omega
  · rcases z3 with ⟨z3, _⟩ | ⟨z3, z4, zF, zR, z186, z187, z188, zt, ztr, ztr2, zo, zo2⟩
    · omega
    · obtain ⟨v1, v2, v3⟩ := u4 ca.1
      subst u1 v1 v2 v3
      obtain ⟨t12, _, tq⟩ := To_q hB to ca.1
      have hx : Xc o.2 (D 108) (s + x_q R p k) (12 * p + T) := by
        unfold Xc
        rw [zt.1, zt.2.1, zt.2.2]
        have e9 : C 4 9 = s + x_q R p k := by omega
        rw [e9] at csk cw
        refine ⟨Sc_of hB ca csk ctk ztr, ?_⟩
        rcases cw with cw | ⟨w1, w2, w3, w4, w5, w6⟩
        · exact Or.inl ⟨cw.1, cw.2.2.1⟩
        · refine Or.inr ⟨w1, Sc_of hB w2 w3 w4 (ztr2 w1.1), ?_⟩
          exact w5
      have ag : Ag R o.2 p k T := by
        refine ⟨fun m hm => ?_, fun t t0 t1 => ⟨zo _ (by omega), fun j j1 j2 => zo2 j (by omega)⟩⟩
        rw [z188, if_neg (by omega)]
      have wt : W_test o.2 (12 * p + T) := by
        unfold W_test
        rw [zt.1, zt.2.1, zt.2.2]
        refine ⟨by omega, by omega, by omega, fun j _ _ => z2.2.2.2.2 h11 _⟩
      have ga := Gdd_add (U := T + 1) (y := T) h8 ag (fun x hx => cl x (by omega)) ⟨by omega, by omega⟩ (by omega) (by rw [z188, if_pos rfl]) ⟨by have := h8.1; omega, by omega⟩ (fun _ => ⟨rfl, wt, hx⟩) (fun z => by have := h8.1; omega)
      obtain ⟨g1, g2, g3⟩ := ga
      have T0 : 0 ≤ T := h8.1.1
      rw [if_pos T0] at g2 g3
      have ln : x_ln o.2 (12 * p + T) = 2 * a + (if op = 0 then 0 else 2 * b - 1) := by
        unfold x_ln
        rw [zt.1, zt.2.1, zt.2.2]
      rw [ln] at g2
      refine Or.inr ⟨z4, t12, zF, D, i2, by rw [ec, cd], cF, fun q hq => cl q (by omega), ⟨ct, zR, ?_, ?_, c11, z186, ?_, g1, ?_, Or.inl rfl, z2.2.2.2.2 h11, ?_⟩, g3, ?_, cqq⟩
      · omega
      · rw [zF 11 48 (by decide)]; exact h4
      · rw [z187]; omega
      · rw [g2]
        rcases cw with cw | ⟨w1, w2, w3, w4, w5, w6⟩
        · rw [if_pos cw.1]; omega
        · rw [if_neg (by omega)]; omega
      · rw [g2]
        rcases cw with cw | ⟨w1, w2, w3, w4, w5, w6⟩
        · rw [if_pos cw.1]; omega
        · rw [if_neg (by omega)]; omega
      · omega
