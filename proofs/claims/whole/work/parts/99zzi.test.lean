theorem Pw_u {c : Int → Int} {i a b : Nat} {x y : Int} (hab : a + b ≤ 29) (h : Pw c i a b x) (h2 : Pw c i a b y) : x = y := by
  rcases h with ⟨h, k⟩ | ⟨j, j1, j2, j3, j4⟩ <;> rcases h2 with ⟨h3, k3⟩ | ⟨m, m1, m2, m3, m4⟩
  · rw [h, h3]
  · exact absurd ⟨m3, m4⟩ (k m m1)
  · exact absurd ⟨j3, j4⟩ (k3 j j1)
  · have := k_inj (j + a) (by omega) (m + a) (by omega) (j4.symm.trans m4)
    omega
/-- what reading a TEST from TOKEN i on comes to: a TERMS, b TERMS, op; or a FAULT -/
def To (c : Int → Int) (i : Nat) (t a b op f q : Int) (i2 : Nat) : Prop := (Tk c i ∧ 12 ≤ t ∧ a = 0 ∧ f = 4 ∧ q = qT c i) ∨ (¬ (Tk c i ∧ 12 ≤ t) ∧ ∃ a0 f0 q0, So c i a0 f0 q0 ∧ ((a0 = 0 ∧ a = 0 ∧ f = f0 ∧ q = q0) ∨ (1 ≤ a0 ∧ ∃ x, Pw c (i + (2 * a0 - 1).toNat) 21 3 x ∧ ((x = -1 ∧ a = a0 ∧ b = 0 ∧ op = 0 ∧ f = 0 ∧ q = 0 ∧ i2 = i + (2 * a0 - 1).toNat) ∨ (0 ≤ x ∧ ∃ b0 f1 q1, So c (i + (2 * a0 - 1).toNat + 1) b0 f1 q1 ∧ ((b0 = 0 ∧ a = 0 ∧ f = f1 ∧ q = q1) ∨ (1 ≤ b0 ∧ a = a0 ∧ b = b0 ∧ op = x + 1 ∧ f = 0 ∧ q = 0 ∧ i2 = i + (2 * a0 - 1).toNat + 1 + (2 * b0 - 1).toNat)))))))
theorem To_u {c : Int → Int} {i i2 j2 : Nat} {t a b op f q a2 b2 op2 f2 q2 : Int} (h : To c i t a b op f q i2) (h2 : To c i t a2 b2 op2 f2 q2 j2) : a = a2 ∧ f = f2 ∧ q = q2 ∧ (1 ≤ a → b = b2 ∧ op = op2 ∧ i2 = j2) := by
  rcases h with h | ⟨nh, a0, f0, q0, s0, h⟩ <;> rcases h2 with h2 | ⟨nh2, a1, f1, q1, s1, h2⟩
  · exact ⟨by omega, by omega, by omega, fun z => by omega⟩
  · exact absurd ⟨h.1, h.2.1⟩ nh2
  · exact absurd ⟨h2.1, h2.2.1⟩ nh
  · obtain ⟨e1, e2, e3⟩ := So_u s0 s1
    subst e1 e2 e3
    rcases h with h | ⟨h0, x, px, h⟩ <;> rcases h2 with h2 | ⟨h02, y, py, h2⟩
    · exact ⟨by omega, by omega, by omega, fun z => by omega⟩
    · omega
    · omega
    · have exy := Pw_u (by decide) px py
      subst exy
      rcases h with h | ⟨hx, b0, g1, r1, sb, h⟩ <;> rcases h2 with h2 | ⟨hx2, b1, g2, r2, sb2, h2⟩
      · exact ⟨by omega, by omega, by omega, fun _ => ⟨by omega, by omega, by omega⟩⟩
      · omega
      · omega
      · obtain ⟨e1, e2, e3⟩ := So_u sb sb2
        subst e1 e2 e3
        rcases h with h | h <;> rcases h2 with h2 | h2
        · exact ⟨by omega, by omega, by omega, fun z => by omega⟩
        · omega
        · omega
        · exact ⟨by omega, by omega, by omega, fun _ => ⟨by omega, by omega, by omega⟩⟩
theorem qT_a {c : Int → Int} {n : Int} {i : Nat} (hB : z_B c n) : ∀ m : Nat, (∀ j : Nat, j < m → kT c (i + j) ≠ 0) → qT c i + m ≤ qT c (i + m) := by
  intro m
  induction m with
  | zero => intro _; rw [show i + 0 = i by omega]; omega
  | succ m ih =>
    intro h
    have h1 := ih (fun j hj => h j (by omega))
    have h2 := (qT_s (i := i + m) hB).2 (h m (by omega))
    rw [show i + (m + 1) = i + m + 1 by omega]
    omega
theorem So_tk {c : Int → Int} {n : Int} {i : Nat} {a f q : Int} (hB : z_B c n) (h : So c i a f q) (ha : 1 ≤ a) : (a ≤ 3 ∧ f = 0 ∧ q = 0) ∧ (∀ j : Nat, (j : Int) < a → Tk c (i + 2 * j)) ∧ qT c i + (2 * a - 1) ≤ qT c (i + (2 * a - 1).toNat) := by
  obtain ⟨m, m1, m2, m3⟩ := h
  have e : Tk c (i + 2 * m) ∧ m < 3 ∧ a = m + 1 ∧ f = 0 ∧ q = 0 := by
    rcases m3 with y | y | y
    · omega
    · omega
    · exact ⟨y.1, y.2.1, y.2.2.2⟩
  have tk : ∀ j : Nat, (j : Int) < a → Tk c (i + 2 * j) := by
    intro j hj
    by_cases ej : j = m
    · rw [ej]; exact e.1
    · exact (m2 j (by omega)).1
  refine ⟨⟨by omega, e.2.2.2⟩, tk, ?_⟩
  have w := qT_a (i := i) hB (2 * m + 1) (fun j hj => ?_)
  · rw [show (2 * a - 1).toNat = 2 * m + 1 by omega]
    omega
  · by_cases ev : j % 2 = 0
    · rw [show j = 2 * (j / 2) by omega]
      exact (Tk_0 hB (tk (j / 2) (by omega))).1
    · rw [show i + j = i + 2 * (j / 2) + 1 by omega, (m2 (j / 2) (by omega)).2.1]
      decide
def W_tC : bW := W_sumC ++ [(4, some 11)]
/-- the class's TEST -/
theorem t_testC {C : bM} {c : Int → Int} {n : Int} {i : Nat} {t : Int} (hB : z_B c n) (h : Ct c n C i) (hi : i < 800000) (ht : C 4 11 = t) (ht0 : 0 ≤ t ∧ t ≤ 12) (hb : 0 ≤ C 4 9 ∧ C 4 9 + 1 ≤ qT c i) : b_wp (F_X1_readTest C) (fun o => b_fr (W_tC ++ [(1, some 5), (1, some 6)]) C o.2 ∧ ∃ a b op f q i2, To c i t a b op f q i2 ∧ ((a = 0 ∧ o.1 = 0 ∧ o.2 1 5 = f ∧ o.2 1 6 = q) ∨ ((1 ≤ a ∧ a ≤ 3) ∧ o.1 = 1 ∧ b_fr W_tC C o.2 ∧ (∀ j, j < C 4 9 → o.2 108 j = C 108 j) ∧ Ct c n o.2 i2 ∧ i2 < i + 12 ∧ qT c i < qT c i2 ∧ o.2 4 11 = t + 1 ∧ Sk c o.2 (C 4 9) i a ∧ (∀ j : Nat, (j : Int) < a → Tk c (i + 2 * j)) ∧ ((op = 0 ∧ b = 0 ∧ o.2 108 (C 4 9 + 2 * a - 1) = x_enc 0 9 ∧ o.2 4 9 = C 4 9 + 2 * a ∧ o.2 4 9 ≤ qT c i2) ∨ ((1 ≤ op ∧ op ≤ 3) ∧ (1 ≤ b ∧ b ≤ 3) ∧ Sk c o.2 (C 4 9 + 2 * a - 1) (i + (2 * a - 1).toNat + 1) b ∧ (∀ j : Nat, (j : Int) < b → Tk c (i + (2 * a - 1).toNat + 1 + 2 * j)) ∧ o.2 108 (C 4 9 + 2 * a + 2 * b - 2) = x_enc 0 (op + 2) ∧ o.2 4 9 = C 4 9 + 2 * a + 2 * b - 1 ∧ o.2 4 9 ≤ qT c i2))))) := by
  have n1 := hB.1
  have b25 : ¬ (Tk c i ∧ 12 ≤ t) → b_wp (F_X1_readTest_b25 C) (fun o => b_fr (W_tC ++ [(1, some 5), (1, some 6)]) C o.2 ∧ ∃ a b op f q i2, To c i t a b op f q i2 ∧ ((a = 0 ∧ o.1 = 0 ∧ o.2 1 5 = f ∧ o.2 1 6 = q) ∨ ((1 ≤ a ∧ a ≤ 3) ∧ o.1 = 1 ∧ b_fr W_tC C o.2 ∧ (∀ j, j < C 4 9 → o.2 108 j = C 108 j) ∧ Ct c n o.2 i2 ∧ i2 < i + 12 ∧ qT c i < qT c i2 ∧ o.2 4 11 = t + 1 ∧ Sk c o.2 (C 4 9) i a ∧ (∀ j : Nat, (j : Int) < a → Tk c (i + 2 * j)) ∧ ((op = 0 ∧ b = 0 ∧ o.2 108 (C 4 9 + 2 * a - 1) = x_enc 0 9 ∧ o.2 4 9 = C 4 9 + 2 * a ∧ o.2 4 9 ≤ qT c i2) ∨ ((1 ≤ op ∧ op ≤ 3) ∧ (1 ≤ b ∧ b ≤ 3) ∧ Sk c o.2 (C 4 9 + 2 * a - 1) (i + (2 * a - 1).toNat + 1) b ∧ (∀ j : Nat, (j : Int) < b → Tk c (i + (2 * a - 1).toNat + 1 + 2 * j)) ∧ o.2 108 (C 4 9 + 2 * a + 2 * b - 2) = x_enc 0 (op + 2) ∧ o.2 4 9 = C 4 9 + 2 * a + 2 * b - 1 ∧ o.2 4 9 ≤ qT c i2))))) := by
    intro nh
    unfold F_X1_readTest_b25
    rw [ht]
    refine b_Wg (by omega) (b_Wl ?_)
    generalize hD : b_up C 4 11 (t + 1) = D
    have dF : b_fr [(4, some 11)] C D := by subst hD; exact b_frF b_fr_refl (by decide)
    have d11 : D 4 11 = t + 1 := by subst hD; exact b_ups
    have d9 : D 4 9 = C 4 9 := dF 4 9 (by decide)
    have d8 : ∀ j, D 108 j = C 108 j := fun j => dF 108 j (by simp [b_ins])
    clear hD
    have dC := Ct_k dF (by decide) h
    refine b_Wb (b_wp_m (fun o z => ?_) (t_sumC hB dC (by omega) (by omega)))
    obtain ⟨x5, E⟩ := o
    obtain ⟨z1, z2, a, f, q, so, z3⟩ := z
    dsimp only at z1 z2 z3
    rw [d9] at z2 z3
    refine b_Wtwo ?_
    dsimp only
    rcases z3 with ⟨z3, z4, z5, z6⟩ | ⟨z3, z4, z5, z6, z7, z8⟩
    · exact b_Wt z4 (b_Ws ⟨b_fr_tr (b_fr_mo (by decide) dF) (b_fr_mo (by decide) z1), 0, 0, 0, f, q, 0, Or.inr ⟨nh, a, f, q, so, Or.inl ⟨z3, rfl, rfl, rfl⟩⟩, Or.inl ⟨rfl, rfl, z5, z6⟩⟩)
    · refine b_Wf (by omega) (b_Wb (b_wp_m (fun x w => ?_) (t_place106 z6.2.1 z6.2.2)))
      obtain ⟨⟨a3, _, _⟩, stk, sq⟩ := So_tk hB so z3.1
      have e11 : E 4 11 = t + 1 := by rw [z5 4 11 (by decide)]; exact d11
      have eF : b_fr W_tC C E := b_fr_tr (b_fr_mo (by decide) dF) (b_fr_mo (by decide) z5)
      have e8 : ∀ j, j < C 4 9 → E 108 j = C 108 j := fun j hj => by rw [z2 j hj]; exact d8 j
      generalize hi1 : i + (2 * a - 1).toNat = i1 at *
      have qn1 := qT_n (i := i1) hB
      -- no second SUM
      have b64 : Pw c i1 21 3 (-1) → b_wp (F_X1_readTest_b64 E) (fun o => b_fr (W_tC ++ [(1, some 5), (1, some 6)]) C o.2 ∧ ∃ a b op f q i2, To c i t a b op f q i2 ∧ ((a = 0 ∧ o.1 = 0 ∧ o.2 1 5 = f ∧ o.2 1 6 = q) ∨ ((1 ≤ a ∧ a ≤ 3) ∧ o.1 = 1 ∧ b_fr W_tC C o.2 ∧ (∀ j, j < C 4 9 → o.2 108 j = C 108 j) ∧ Ct c n o.2 i2 ∧ i2 < i + 12 ∧ qT c i < qT c i2 ∧ o.2 4 11 = t + 1 ∧ Sk c o.2 (C 4 9) i a ∧ (∀ j : Nat, (j : Int) < a → Tk c (i + 2 * j)) ∧ ((op = 0 ∧ b = 0 ∧ o.2 108 (C 4 9 + 2 * a - 1) = x_enc 0 9 ∧ o.2 4 9 = C 4 9 + 2 * a ∧ o.2 4 9 ≤ qT c i2) ∨ ((1 ≤ op ∧ op ≤ 3) ∧ (1 ≤ b ∧ b ≤ 3) ∧ Sk c o.2 (C 4 9 + 2 * a - 1) (i + (2 * a - 1).toNat + 1) b ∧ (∀ j : Nat, (j : Int) < b → Tk c (i + (2 * a - 1).toNat + 1 + 2 * j)) ∧ o.2 108 (C 4 9 + 2 * a + 2 * b - 2) = x_enc 0 (op + 2) ∧ o.2 4 9 = C 4 9 + 2 * a + 2 * b - 1 ∧ o.2 4 9 ≤ qT c i2))))) := by
        intro pw
        unfold F_X1_readTest_b64
        refine b_We (e_emit (by omega)) (b_Ws ?_)
        have r : i + (2 * a - 1).toNat = i1 := hi1
        refine ⟨b_fr_mo (by decide) (b_fr_tr eF (b_fr_mo (by decide) em_fr)), a, 0, 0, 0, 0, i1, Or.inr ⟨nh, a, f, q, so, Or.inr ⟨z3.1, -1, by rw [r]; exact pw, Or.inl ⟨rfl, rfl, rfl, rfl, rfl, rfl, r.symm⟩⟩⟩, Or.inr ⟨z3, rfl, b_fr_tr eF (b_fr_mo (by decide) em_fr), fun j hj => ?_, em_ct z6, by omega, by omega, ?_, Sk_c (fun j hj => ?_) z8, stk, Or.inl ⟨rfl, rfl, ?_, ?_, ?_⟩⟩⟩
        · dsimp only
          rw [em_f.2.2, if_neg (by omega)]
          exact e8 j hj
        · dsimp only
          rw [em_f.1 4 11 (by decide) (by decide)]
          exact e11
        · dsimp only
          rw [em_f.2.2, if_neg (by omega)]
        · dsimp only
          rw [em_f.2.2, if_pos (by omega)]
        · dsimp only
          rw [em_f.2.1]; omega
        · dsimp only
          rw [em_f.2.1]; omega
      have noP : ∀ j0 : Nat, kT c i1 = 1 → vT c i1 = kW j0 → j0 < 29 → ¬ (21 ≤ j0 ∧ j0 ≤ 23) → Pw c i1 21 3 (-1) := by
        intro j0 k1 kv j29 nj
        refine Or.inl ⟨rfl, fun j hj z => ?_⟩
        have := k_inj j0 j29 (j + 21) (by omega) (kv.symm.trans z.2)
        omega
      rcases w with ⟨w1, w2⟩ | ⟨j0, w1, w2, w3, w4⟩
      · refine b_Wt (by omega) (b64 (Or.inl ⟨rfl, fun j hj z => ?_⟩))
        refine w2 (j + 3) (by omega) ⟨z.1, ?_⟩
        rw [show j + 3 + 18 = j + 21 by omega]
        exact z.2
      · by_cases le : x ≤ 2
        · exact b_Wt le (b64 (noP (j0 + 18) w3 w4 (by omega) (by omega)))
        · refine b_Wf le ?_
          by_cases lt : x < 6
          · refine b_Wt lt ?_
            have pw : Pw c i1 21 3 (x - 3) := Or.inr ⟨j0 - 3, by omega, by omega, w3, by rw [show j0 - 3 + 21 = j0 + 18 by omega]; exact w4⟩
            have i1l : qT c i1 + 2 ≤ qT c (i1 + 1) := by
              have k := qT_w hB w3 w4 (by omega)
              have kl : 2 ≤ kL (j0 + 18) := by
                have cj : j0 = 3 ∨ j0 = 4 ∨ j0 = 5 := by omega
                rcases cj with e | e | e <;> subst e <;> decide
              omega
            refine b_Wb (b_wp_m (fun F y => ?_) (t_stepT hB z6 (by omega)))
            have y1 := y.1
            have y2 := y.2
            have yk := b_kp1 y1 (show b_dis W_st [(4, some 9), (4, some 11), (108, none)] = true by decide)
            have f9 : F 4 9 = C 4 9 + (2 * a - 1) := by rw [yk 4 9 rfl]; exact z7
            have f8 : ∀ j, F 108 j = E 108 j := fun j => yk 108 j rfl
            refine b_Wb (b_wp_m (fun o v => ?_) (t_sumC hB y2 (by omega) (by omega)))
            obtain ⟨x13, Gm⟩ := o
            obtain ⟨v1, v2, b, f', q', so', v3⟩ := v
            dsimp only at v1 v2 v3
            rw [f9] at v2 v3
            refine b_Wtwo ?_
            dsimp only
            have r : i + (2 * a - 1).toNat = i1 := hi1
            rcases v3 with ⟨v3, v4, v5, v6⟩ | ⟨v3, v4, v5, v6, v7, v8⟩
            · refine b_Wt v4 (b_Ws ⟨b_fr_tr (b_fr_mo (by decide) eF) (b_fr_tr (b_fr_mo (by decide) y1) (b_fr_mo (by decide) v1)), 0, 0, 0, f', q', 0, Or.inr ⟨nh, a, f, q, so, Or.inr ⟨z3.1, x - 3, by rw [r]; exact pw, Or.inr ⟨by omega, b, f', q', by rw [r]; exact so', Or.inl ⟨v3, rfl, rfl, rfl⟩⟩⟩⟩, Or.inl ⟨rfl, rfl, v5, v6⟩⟩)
            · obtain ⟨⟨b3, _, _⟩, stk2, sq2⟩ := So_tk hB so' v3.1
              have qn2 := qT_n (i := i1 + 1 + (2 * b - 1).toNat) hB
              refine b_Wf (by omega) (b_We (e_emit (by omega)) (b_Ws ?_))
              have gF : b_fr W_tC C Gm := b_fr_tr eF (b_fr_tr (b_fr_mo (by decide) y1) (b_fr_mo (by decide) v5))
              have g8 : ∀ j, j < C 4 9 + (2 * a - 1) → Gm 108 j = E 108 j := fun j hj => by rw [v2 j hj]; exact f8 j
              refine ⟨b_fr_mo (by decide) (b_fr_tr gF (b_fr_mo (by decide) em_fr)), a, b, x - 3 + 1, 0, 0, i1 + 1 + (2 * b - 1).toNat, Or.inr ⟨nh, a, f, q, so, Or.inr ⟨z3.1, x - 3, by rw [r]; exact pw, Or.inr ⟨by omega, b, f', q', by rw [r]; exact so', Or.inr ⟨v3.1, rfl, rfl, rfl, rfl, rfl, by rw [r]⟩⟩⟩⟩, Or.inr ⟨z3, rfl, b_fr_tr gF (b_fr_mo (by decide) em_fr), fun j hj => ?_, em_ct v6, by omega, by omega, ?_, Sk_c (fun j hj => ?_) z8, stk, Or.inr ⟨by omega, v3, ?_, by rw [r]; exact stk2, ?_, ?_, ?_⟩⟩⟩
              · dsimp only
                rw [em_f.2.2, if_neg (by omega), g8 j (by omega)]
                exact e8 j hj
              · dsimp only
                rw [em_f.1 4 11 (by decide) (by decide), v5 4 11 (by decide), yk 4 11 rfl]
                exact e11
              · dsimp only
                rw [em_f.2.2, if_neg (by omega), g8 j (by omega)]
              · rw [r, show C 4 9 + 2 * a - 1 = C 4 9 + (2 * a - 1) by omega]
                refine Sk_c (fun j hj => ?_) v8
                dsimp only
                rw [em_f.2.2, if_neg (by omega)]
              · dsimp only
                rw [em_f.2.2, if_pos (by omega), show x - 3 + 1 + 2 = x by omega]
              · dsimp only
                rw [em_f.2.1]; omega
              · dsimp only
                rw [em_f.2.1]; omega
          · exact b_Wf lt (b64 (noP (j0 + 18) w3 w4 (by omega) (by omega)))
  unfold F_X1_readTest
  refine b_Wb (b_wp_m (fun x z => ?_) (t_termC h.2.1 h.2.2))
  rcases z with ⟨z1, z2⟩ | ⟨z1, z2⟩
  · refine b_Wf (by omega) ?_
    rw [ht]
    refine b_Wi (fun lt => b25 (fun q => by omega)) (fun lt => b_We e_wrong (b_Wtwo (b_Wg (Or.inl rfl) (b_Ws ⟨b_frF (b_frF b_fr_refl (by decide)) (by decide), 0, 0, 0, 4, qT c i, 0, Or.inl ⟨z2, by omega, rfl, rfl, rfl⟩, Or.inl ⟨rfl, rfl, (wr_f (M := C) (k := 4)).1, (wr_f (M := C) (k := 4)).2.trans h.2.1.2.2.1⟩⟩))))
  · exact b_Wt z1 (b25 (fun q => z2 q.1))
