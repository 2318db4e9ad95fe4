/-- NOT of the reference, NOT and AND of the class -/
theorem t_fin {cc dd : Int → Int} {e9 f9 : Int} {Q : bM} {s p : Int} {k : Nat} {T q a : Int} (hp2 : 192 ≤ p ∧ p < 216) (h : Rb cc e9 Q s p k T 0) (hq : q = 0 ∨ q = 1) (ha : a = 0 ∨ a = 1) (hd : ∀ x, x < e9 → dd x = cc x) (hdq : q = 1 → dd e9 = x_enc 0 8) (hda : a = 1 → dd (e9 + q) = x_enc 0 6) (hf : f9 = e9 + q + a) (h1 : 1 ≤ x_dep Q p k) (hk : (k : Int) + 1 ≤ 8 * T) : b_wp (F_X12_readOne_L5_b122 q Q) (fun x => x.1 = 1 ∧ b_fr [(187, none), (188, none)] Q x.2 ∧ Fp p Q x.2 ∧ ∃ k' : Nat, Rb dd f9 x.2 s p k' T a ∧ x_dep x.2 p k' = x_dep Q p k ∧ (k' : Int) ≤ k + 1) := by
  have h9 : e9 = s + x_q Q p k + 0 := h.2.2.2.2.1
  have T12 := h.2.2.2.1.1
  unfold F_X12_readOne_L5_b122
  refine b_Wi (fun z => b_Ws ⟨rfl, b_fr_refl, Fp_r, k, ?_, rfl, by omega⟩) (fun z => b_We (e_addStep h.1 hp2 h.2.2.1 ⟨by omega, by omega⟩) (b_Ws ?_))
  · subst z
    rcases ha with e | e
    · subst e
      have := (Rb_k (dd := dd) h hd (W := []) b_fr_refl (by decide)).1
      rw [hf, show e9 + 0 + 0 = e9 by omega]
      exact this
    · subst e
      rw [hf, show e9 + 0 + 1 = e9 + 1 by omega]
      exact Rb_lag h hd (by have := hda rfl; rw [show e9 + 0 = e9 by omega] at this; exact this)
  · have q1 : q = 1 := by omega
    obtain ⟨g1, g2, g3⟩ := Rb_op (dd := dd) (f9 := f9) (lh := a) (y := -3) h (fun x hx => hd x (by omega)) (Or.inl rfl) (by rw [if_pos rfl]; exact h1) (by rw [show s + x_q Q p k = e9 by omega]; exact hdq q1) (by omega) (by
      rcases ha with e | e
      · exact Or.inl e
      · exact Or.inr ⟨e, by rw [show s + x_q Q p k + 1 = e9 + q by omega]; exact hda e⟩) hk
    rw [if_pos rfl] at g3
    exact ⟨rfl, aS_fr, Fp_a (by omega), k + 1, g1, g3, by omega⟩
def Nl (c : Int → Int) (n s p g v o a : Int) (C R : bM) (i k : Nat) (T j : Int) (q : Int) (Q : bM) (i1 : Nat) : Prop := ∃ (C1 : bM) (j1 : Int), (q = 0 ∨ q = 1) ∧ TOP v j C = TOP v j1 C1 ∧ b_fr (W_st ++ [(109, none)]) C C1 ∧ b_fr W_sc R Q ∧ (∀ u, u ≠ v → C1 109 u = C 109 u) ∧ C1 109 v = 4 * o + 2 * a + q ∧ Rl c n s p C1 Q i1 k T 0 ∧ x_dep Q p k = x_dep R p k ∧ (0 ≤ j1 ∧ j1 + 1 ≤ qT c i1) ∧ C1 4 9 + (g + a + q) + 1 ≤ qT c i1 ∧ qT c i ≤ qT c i1
theorem kR_is {c : Int → Int} {R : bM} {i : Nat} (h : Rt c R i) (j : Nat) (hj : j < 29) : (R 11 3 = 1 ∧ R 11 4 = j) ↔ Wd c i j := by
  have k := Kr_i (Kr_of h) (j := j) hj
  constructor
  · intro z; exact k.mp z.2
  · intro z; exact ⟨(so_cases h).2.2.2.2.2.1.mpr z.1, k.mpr z⟩
theorem t_nots {c : Int → Int} {n s p g v o a : Int} {C R : bM} {i k : Nat} {T j : Int} (hB : z_B c n) (hv : 0 ≤ v ∧ v < 6) (ho : o = 0 ∨ o = 1) (ha : a = 0 ∨ a = 1) (h : Pre c n s p (g + a) v C R i k T j (4 * o + 2 * a)) : b_wp (b_loop (fun t : Int × bM => F_X12_readOne_L5_s2 t.1 t.2) (0, R)) (fun t => ∃ i1, ¬ Wd c i1 20 ∧ Nl c n s p g v o a C R i k T j t.1 t.2 i1) := by
  obtain ⟨h1, h2, h3, h4, h5, h6⟩ := h
  have nn := hB.1
  refine b_loop_ind (I := fun t : Int × bM => ∃ i1, Nl c n s p g v o a C R i k T j t.1 t.2 i1) (fun t => (1001 - t.2 11 5).toNat) ?_ (0, R) ⟨i, C, j, Or.inl rfl, rfl, b_fr_refl, b_fr_refl, fun _ _ => rfl, by rw [h3]; show _ = _ + (0 : Int); omega, h1, rfl, h4, by show C 4 9 + (g + a + 0) + 1 ≤ _; omega, Int.le_refl _⟩
  intro ⟨q, Q⟩ ⟨i1, C1, j1, n1, n2, n3, n4, n5, n6, n7, n8, n9, n10, n11⟩
  dsimp only at n1 n4 n6 n7 n8 n10 ⊢
  have rt : Rt c Q i1 := n7.2.1
  have ct : Ct c n C1 i1 := n7.1
  have qn := qT_n (i := i1) hB
  have out : ¬ Wd c i1 20 → ∃ i1, ¬ Wd c i1 20 ∧ Nl c n s p g v o a C R i k T j q Q i1 := fun w => ⟨i1, w, C1, j1, n1, n2, n3, n4, n5, n6, n7, n8, n9, n10, n11⟩
  unfold F_X12_readOne_L5_s2
  refine b_Wi (fun y1 => b_Wi (fun y2 => ?_) (fun y2 => b_Ws (out (fun w => y2 ((kR_is rt 20 (by decide)).mpr w).2)))) (fun y1 => b_Ws (out (fun w => y1 ((kR_is rt 20 (by decide)).mpr w).1)))
  have w : Wd c i1 20 := (kR_is rt 20 (by decide)).mp ⟨y1, y2⟩
  have lw := qT_w hB w.1 w.2 (by decide)
  have l20 : kL 20 = 3 := by decide
  rw [l20] at lw
  have qn2 := qT_n (i := i1 + 1) hB
  generalize hC2 : b_up C1 109 v (i_xor (C1 109 v) 1) = C2
  have f2 : b_fr [(109, none)] C1 C2 := by subst hC2; exact b_frA b_fr_refl (by decide)
  have c2v : C2 109 v = 4 * o + 2 * a + (1 - q) := by
    subst hC2
    rw [b_ups, n6, (i_8 (by omega)).2.2.2.1]
    omega
  have c2u : ∀ u, u ≠ v → C2 109 u = C1 109 u := fun u hu => by subst hC2; exact b_upi hu
  have c2C : Ct c n C2 i1 := Ct_k f2 (by decide) ct
  have i1b : (i1 : Int) ≤ qT c i1 := n7.2.2.1
  obtain ⟨D, hD, d1, d2⟩ := b_wp_ex (t_stepT hB c2C (by omega))
  have go : ∀ u0 : Int, u0 = 1 - q → b_wp (F_X12_readOne_L5_b28 u0 Q) (Sum.elim (fun s2 : Int × bM => (∃ i1, Nl c n s p g v o a C R i k T j s2.1 s2.2 i1) ∧ (1001 - s2.2 11 5).toNat < (1001 - Q 11 5).toNat) (fun t : Int × bM => ∃ i1, ¬ Wd c i1 20 ∧ Nl c n s p g v o a C R i k T j t.1 t.2 i1)) := by
    intro u0 hu
    unfold F_X12_readOne_L5_b28
    refine b_Wb (b_wp_m (fun P z => b_Ws ?_) (t_scanT hB rt))
    obtain ⟨z1, z2⟩ := z
    have dk := b_kp1 d1 (show b_dis W_st [(109, none), (4, none), (108, none)] = true by decide)
    have fk := b_kp1 f2 (show b_dis [(109, none)] [(4, none), (108, none)] = true by decide)
    obtain ⟨⟨_, _, _, r11⟩, rb⟩ := Rl_b.mp n7
    obtain ⟨rb1, rb2, rb3⟩ := Rb_k (dd := D 108) rb (fun x _ => by rw [dk 108 x rfl, fk 108 x rfl]) z1 (by decide)
    have e9 : D 4 9 = C1 4 9 := by rw [dk 4 9 rfl, fk 4 9 rfl]
    refine ⟨⟨i1 + 1, D, j1 + 1, ?_, n2.trans (TOP_not ct w (by omega) hv (by rw [hC2]; exact hD)), b_fr_tr n3 (b_fr_tr (b_fr_mo (by decide) f2) (b_fr_mo (by decide) d1)), b_fr_tr n4 z1, fun u hu => ?_, ?_, Rl_b.mpr ⟨⟨d2, z2, by omega, ?_⟩, ?_⟩, ?_, by omega, ?_, by omega⟩, ?_⟩
    · show u0 = 0 ∨ u0 = 1; omega
    · rw [dk 109 u rfl, c2u u hu]; exact n5 u hu
    · show D 109 v = 4 * o + 2 * a + u0
      rw [dk 109 v rfl, c2v]; omega
    · rw [dk 4 11 rfl, fk 4 11 rfl]; exact r11
    · rw [e9]; exact rb1
    · show x_dep P p k = _
      rw [rb3]; exact n8
    · show D 4 9 + (g + a + u0) + 1 ≤ _
      omega
    · show (1001 - P 11 5).toNat < _
      rw [show P 11 5 = qT c (i1 + 1) from z2.2.1, show Q 11 5 = qT c i1 from rt.2.1]
      omega
  exact b_Wi (fun y3 => go 1 (by omega)) (fun y3 => go 0 (by omega))
