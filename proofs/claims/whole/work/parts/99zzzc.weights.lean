theorem t_weighAll {U N : bM} {a : Nat} (hR : R_rules U) (hP : R_prog U) (hc : A_code U a) (hM : R_marks U) (h5 : 0 ≤ U 5 0 ∧ U 5 0 ≤ 120) (ha : 1 ≤ a ∧ (a : Int) = U 4 0) (h110 : ∀ k, 0 ≤ k → k < U 5 0 → U 194 k = U 110 k) (hN : Hm U N) : b_wp (F_X7_weighAll_4 N) (fun O => b_fr W_X7_weighBy_4 N O ∧ Hm U O ∧ ∀ k b, 0 ≤ k → 0 ≤ b → b < 9 → O 124 (9 * k + b) = if b = a ∧ k < U 5 0 then x_wt U a k else N 124 (9 * k + b)) := by
  have r1 := hR.1
  unfold F_X7_weighAll_4
  refine b_Wb (b_wp_m (fun O z => ?_) (b_loop_ind (P := fun O : bM => b_fr W_X7_weighBy_4 N O ∧ Hm U O ∧ ∀ k b, 0 ≤ k → 0 ≤ b → b < 9 → O 124 (9 * k + b) = if b = a ∧ k < U 5 0 then x_wt U a k else N 124 (9 * k + b)) (I := fun s : Int × bM => (0 ≤ s.1 ∧ s.1 ≤ U 5 0) ∧ b_fr W_X7_weighBy_4 N s.2 ∧ Hm U s.2 ∧ ∀ k b, 0 ≤ k → 0 ≤ b → b < 9 → s.2 124 (9 * k + b) = if b = a ∧ k < s.1 then x_wt U a k else N 124 (9 * k + b)) (fun s => (U 5 0 - s.1).toNat) ?_ (0, N) ⟨by dsimp only; omega, b_fr_refl, hN, fun k b k0 _ _ => by dsimp only; rw [if_neg (by omega)]⟩))
  · unfold F_X7_weighAll_4_b26
    exact b_Ws z
  · intro ⟨v, P⟩ ⟨g1, g2, g3, g4⟩
    dsimp only at g1 g2 g3 g4 ⊢
    have p5 := g3 5 0 (by decide) (by decide) (by decide)
    have p4 := g3 4 0 (by decide) (by decide) (by decide)
    unfold F_X7_weighAll_4_s2
    rw [p5, p4]
    refine b_Wi (fun q => b_Ws ⟨g2, g3, fun k b k0 b0 b1 => ?_⟩) (fun q => b_Wb (b_wp_m (fun O y => b_Wg (by omega) (b_Ws ⟨⟨by dsimp only; omega, b_fr_tr g2 y.1, y.2.1, fun k b k0 b0 b1 => ?_⟩, by dsimp only; omega⟩)) (b_wl_wp (w_X7_weighBy_4 b_fr_refl) (t_weighBy (a := a) hR hP hc hM h5.2 ⟨ha.1, by omega⟩ ⟨g1.1, by omega⟩ (h110 v g1.1 (by omega)) g3 ha.2.symm))))
    · rw [g4 k b k0 b0 b1, show v = U 5 0 by omega]
    · dsimp only
      rw [y.2.2, g4 k b k0 b0 b1]
      by_cases e : 9 * k + b = 9 * v + a
      · have e1 : k = v := by omega
        have e2 : b = a := by omega
        rw [if_pos e, if_pos ⟨e2, by omega⟩, e1]
      · rw [if_neg e]
        by_cases e2 : b = a ∧ k < v
        · rw [if_pos e2, if_pos ⟨e2.1, by omega⟩]
        · rw [if_neg e2, if_neg (by omega)]
