theorem x_wt_s {M : bM} {a : Nat} {k : Int} (ha : 1 ≤ a) : x_wt M a k = z_fold (x_ws M a k) 0 (M 183 (11 * ((a : Int) - 1) + 10)).toNat := by
  unfold x_wt
  rw [if_neg (by omega)]
  rfl
theorem x_n183 {M : bM} {a : Nat} (hR : R_rules M) (ha : 1 ≤ a ∧ (a : Int) ≤ M 4 0) : M 183 (11 * ((a : Int) - 1) + 10) = M (12 + a) 1 ∧ (0 ≤ M (12 + a) 1 ∧ M (12 + a) 1 ≤ 24) := by
  have r := hR.2.2 a ha.2
  refine ⟨?_, r.2.1⟩
  rw [r.1]
  unfold x_mod
  rw [if_neg (by omega)]
/-- the class's weight of PAPER k by ACT a -/
theorem t_weightC {M N : bM} {a : Nat} {k : Int} (hR : R_rules M) (hP : R_prog M) (hc : A_code M a) (hM : R_marks M) (h5 : M 5 0 ≤ 120) (ha : 1 ≤ a ∧ (a : Int) ≤ M 4 0) (hk : 0 ≤ k ∧ k < M 5 0) (h110 : M 194 k = M 110 k) (hN : Hm M N) : b_wp (F_X0_weightOf_a_5_125 (12 + a) k N) (fun o => o.1 = x_wt M a k ∧ Hm M o.2) := by
  have r1 := hR.1
  obtain ⟨n1, n2⟩ := x_n183 hR ha
  have hw := x_wt_s (M := M) (k := k) ha.1
  rw [n1] at hw
  generalize hn : M (12 + a) 1 = n at hw n2
  unfold F_X0_weightOf_a_5_125
  rw [hN (12 + a) 1 (by omega) (by omega) (by omega), hn]
  refine b_Wg (by omega) (b_Wl (b_Wb (b_wp_m (fun o z => ?_) (b_loop_ind (P := Sum.elim (fun O : bM => Hm M O ∧ x_wt M a k = 0) (fun o : Int × bM => o.1 = x_wt M a k ∧ Hm M o.2)) (I := fun s : Int × bM => (-1 ≤ s.1 ∧ s.1 < n) ∧ Hm M s.2 ∧ z_fold (x_ws M a k) 0 (s.1 + 1).toNat = x_wt M a k) (fun s => (s.1 + 1).toNat) ?_ (n - 1, N) ⟨by dsimp only; omega, hN, by dsimp only; rw [hw, show n - 1 + 1 = n by omega]⟩))))
  · rcases o with O | o
    · show b_wp (F_X0_weightOf_a_5_125_b80 O) _
      unfold F_X0_weightOf_a_5_125_b80
      exact b_Ws ⟨z.2.symm, z.1⟩
    · exact b_Ws z
  · intro ⟨j, P⟩ ⟨g1, g2, g3⟩
    dsimp only at g1 g2 g3 ⊢
    unfold F_X0_weightOf_a_5_125_s8
    refine b_Wi (fun q => b_Ws ⟨g2, ?_⟩) (fun q => ?_)
    · rw [← g3, show (j + 1).toNat = 0 by omega]; rfl
    · rw [z_fold_s (by omega)] at g3
      obtain ⟨c0, c1⟩ := hc
      obtain ⟨k1, k2, k3, k4, k5⟩ := c1 j (by omega) (by omega)
      have hW := hP a (by omega) ha.2 j (by omega) (by omega)
      have w5 := hW.2.1
      have e20 : ∀ Q : bM, Hm M Q → Q (12 + a + 20) j = M 184 (24 * ((a : Int) - 1) + j) * 100 + M 185 (24 * ((a : Int) - 1) + j) := fun Q hQ => by rw [hQ _ _ (by omega) (by omega) (by omega), show 12 + a + 20 = 32 + a by omega]; exact k1
      have ed : i_div (P (12 + a + 20) j) 100 = M 184 (24 * ((a : Int) - 1) + j) := by rw [e20 P g2, i_div_e (by omega) (by decide)]; omega
      have e110 : P 110 k = M 194 k := by rw [g2 _ _ (by decide) (by decide) (by decide), h110]
      have e40 : P (12 + a + 40) j = M (52 + a) j := by rw [g2 _ _ (by omega) (by omega) (by omega), show 12 + a + 40 = 52 + a by omega]
      have e41 : P (12 + a + 40) (j + 1) = M (52 + a) (j + 1) := by rw [g2 _ _ (by omega) (by omega) (by omega), show 12 + a + 40 = 52 + a by omega]
      have e30 : ∀ Q : bM, Hm M Q → i_rem (Q (12 + a + 20) j) 100 = M 185 (24 * ((a : Int) - 1) + j) := fun Q hQ => by rw [e20 Q hQ, i_rem_e (by omega) (by decide)]; omega
      have qq := x_q_m k5 (M 187 (24 * ((a : Int) - 1) + j)).toNat 0 (by have := hW.1; omega)
      rw [show 0 + (M 187 (24 * ((a : Int) - 1) + j)).toNat = (M 187 (24 * ((a : Int) - 1) + j)).toNat by omega, show x_q M (24 * ((a : Int) - 1) + j) 0 = 0 from rfl] at qq
      have ke := k5.1
      have w7 := hW.1
      rw [ed, e110, e40, e41]
      have b60 : ∀ Q : bM, Hm M Q → M 184 (24 * ((a : Int) - 1) + j) = M 194 k → x_hold M (24 * ((a : Int) - 1) + j) k ≠ 0 → b_wp (F_X0_weightOf_a_5_125_b63 (12 + a) j Q) (Sum.elim (fun s2 : Int × bM => ((-1 ≤ s2.1 ∧ s2.1 < n) ∧ Hm M s2.2 ∧ z_fold (x_ws M a k) 0 (s2.1 + 1).toNat = x_wt M a k) ∧ (s2.1 + 1).toNat < (j + 1).toNat) (Sum.elim (fun O : bM => Hm M O ∧ x_wt M a k = 0) (fun o : Int × bM => o.1 = x_wt M a k ∧ Hm M o.2))) := by
        intro Q hQ h1 h2
        unfold F_X0_weightOf_a_5_125_b63
        rw [e30 Q hQ]
        refine b_Wg (by omega) (b_Ws ⟨?_, hQ⟩)
        dsimp only
        rw [← g3]
        unfold x_ws
        rw [if_pos ⟨h1, h2⟩]
      refine b_Wg (by omega) (b_Wi (fun q1 => b_Wg (by omega) (b_Wi (fun q2 => ?_) (fun q2 => ?_))) (fun q1 => b_Wg (by omega) (b_Ws ⟨⟨by dsimp only; omega, g2, ?_⟩, by dsimp only; omega⟩)))
      · refine b60 P g2 q1 ?_
        unfold x_hold
        rw [if_pos (by omega)]
        decide
      · have h7 : 0 < M 187 (24 * ((a : Int) - 1) + j) := by
          by_cases z : 0 < M 187 (24 * ((a : Int) - 1) + j)
          · exact z
          · exfalso
            apply q2
            rw [ke, show (M 187 (24 * ((a : Int) - 1) + j)).toNat = 0 by omega]
            show _ = _ + 0
            omega
        refine b_Wb (b_wp_m (fun o y => ?_) (t_holds (M := M) (N := P) (v0 := 12 + a) (v1 := j) (k := k) (e := M (52 + a) (j + 1)) (s := M (52 + a) j) (p := 24 * ((a : Int) - 1) + j) (c := M (62 + a)) ⟨by omega, by omega, by rw [show 12 + a + 40 = 52 + a by omega], by rw [show 12 + a + 50 = 62 + a by omega]; exact k4, by omega, by rw [show 12 + a + 50 = 62 + a by omega], hM, h5, hk⟩ g2 k3 (by rw [show 12 + a + 40 = 52 + a by omega]) k5 hW h7))
        obtain ⟨r, Q⟩ := o
        obtain ⟨y1, y2, y3⟩ := y
        dsimp only at y1 y2 y3
        refine b_Wtwo ?_
        dsimp only
        refine b_Wi (fun z => b_Wg (by omega) (b_Ws ⟨⟨by dsimp only; omega, y3, ?_⟩, by dsimp only; omega⟩)) (fun z => b60 Q y3 q1 (by omega))
        dsimp only
        rw [show j + (-1) + 1 = j by omega, ← g3]
        unfold x_ws
        rw [if_neg (fun t => t.2 (by omega))]
      · dsimp only
        rw [show j + (-1) + 1 = j by omega, ← g3]
        unfold x_ws
        rw [if_neg (fun t => q1 t.1)]
theorem x_wtN_r {M : bM} {a : Nat} {k : Int} (hR : R_rules M) (hP : R_prog M) (ha : 1 ≤ a ∧ (a : Int) ≤ M 4 0) : 0 ≤ x_wt M a k ∧ x_wt M a k ≤ 99 := by
  obtain ⟨n1, n2⟩ := x_n183 hR ha
  rw [x_wt_s ha.1]
  refine z_fold_i (P := fun x : Int => 0 ≤ x ∧ x ≤ 99) (by omega) _ (fun i x hi hx => ?_)
  unfold x_ws
  have hW := hP a (by omega) ha.2 i (by omega) (by omega)
  split
  · exact hW.2.1
  · exact hx
theorem t_weighBy {M N : bM} {a : Nat} {k : Int} (hR : R_rules M) (hP : R_prog M) (hc : A_code M a) (hM : R_marks M) (h5 : M 5 0 ≤ 120) (ha : 1 ≤ a ∧ (a : Int) ≤ M 4 0) (hk : 0 ≤ k ∧ k < M 5 0) (h110 : M 194 k = M 110 k) (hN : Hm M N) {v : Int} (hv : v = a) : b_wp (F_X7_weighBy_4 k v N) (fun O => Hm M O ∧ ∀ j, O 124 j = if j = 9 * k + a then x_wt M a k else N 124 j) := by
  have n5 := hN 5 0 (by decide) (by decide) (by decide)
  have r1 := hR.1
  unfold F_X7_weighBy_4
  have hs : F_X7_has k N = some 1 := by
    unfold F_X7_has
    rw [if_neg (by omega), if_neg (by omega)]
  have sl : F_X1_slot v N = some (12 + a) := by
    unfold F_X1_slot F_X1_slot_b28
    rw [if_neg (by omega), if_neg (by omega), show v.toNat = a by omega]
    unfold b_g
    rw [if_pos (by omega)]
  refine b_We hs (b_Wf (by decide) (b_Wf (by omega) (b_Wf (by omega) (b_Wg (by omega) (b_We sl (b_Wg (by omega) (b_Wb (b_wp_m (fun o y => ?_) (b_wl_wp (w_X0_weightOf_a_5_125 b_fr_refl) (t_weightC hR hP hc hM h5 ha hk h110 hN))))))))))
  obtain ⟨r, Q⟩ := o
  obtain ⟨f, y1, y2⟩ := y
  dsimp only at f y1 y2
  refine b_Wtwo ?_
  dsimp only
  refine b_Wg (by omega) (b_Wl (b_Ws ⟨fun c j h h4 hl => ?_, fun j => ?_⟩))
  · rw [b_upc h4]; exact y2 c j h h4 hl
  · rw [b_upJ, show k * 9 + v = 9 * k + a by omega, y1, f 124 j (by simp [b_ins, W_X0_weightOf_a_5_125])]
/-- all ACTS for one PAPER -/
theorem t_weigh {M N : bM} {k : Int} (hR : R_rules M) (hP : R_prog M) (hc : R_code M) (hM : R_marks M) (h5 : M 5 0 ≤ 120) (hk : 0 ≤ k ∧ k < M 5 0) (h110 : M 194 k = M 110 k) (hN : Hm M N) : b_wp (F_X7_weigh_4 k N) (fun O => Hm M O ∧ ∀ j, O 124 j = if 9 * k + 1 ≤ j ∧ j ≤ 9 * k + M 4 0 then x_wt M (j - 9 * k) k else N 124 j) := by
  have r1 := hR.1
  unfold F_X7_weigh_4
  refine b_Wb (b_wp_m (fun O z => ?_) (b_loop_ind (P := fun O : bM => Hm M O ∧ ∀ j, O 124 j = if 9 * k + 1 ≤ j ∧ j ≤ 9 * k + M 4 0 then x_wt M (j - 9 * k) k else N 124 j) (I := fun s : Int × bM => (1 ≤ s.1 ∧ s.1 ≤ M 4 0 + 1) ∧ Hm M s.2 ∧ ∀ j, s.2 124 j = if 9 * k + 1 ≤ j ∧ j < 9 * k + s.1 then x_wt M (j - 9 * k) k else N 124 j) (fun s => (M 4 0 + 1 - s.1).toNat) ?_ (1, N) ⟨by dsimp only; omega, hN, fun j => by dsimp only; rw [if_neg (by omega)]⟩))
  · unfold F_X7_weigh_4_b29
    exact b_Ws z
  · intro ⟨v, P⟩ ⟨g1, g2, g3⟩
    dsimp only at g1 g2 g3 ⊢
    have n4 := g2 4 0 (by decide) (by decide) (by decide)
    unfold F_X7_weigh_4_s2
    rw [n4]
    refine b_Wi (fun q => b_Ws ⟨g2, fun j => ?_⟩) (fun q => b_Wf (by omega) (b_Wb (b_wp_m (fun O y => b_Wg (by omega) (b_Ws ⟨⟨by dsimp only; omega, y.1, fun j => ?_⟩, by dsimp only; omega⟩)) (t_weighBy (a := v.toNat) hR hP (hc v.toNat (by omega) (by omega)) hM h5 (by omega) hk h110 g2 (by omega)))))
    · rw [g3 j]
      by_cases c : 9 * k + 1 ≤ j ∧ j < 9 * k + v
      · rw [if_pos c, if_pos (by omega)]
      · rw [if_neg c, if_neg (by omega)]
    · dsimp only
      rw [y.2 j, g3 j, show ((v.toNat : Nat) : Int) = v by omega]
      by_cases c : j = 9 * k + v
      · rw [if_pos c, if_pos (by omega), c, show 9 * k + v - 9 * k = v by omega]
      · rw [if_neg c]
        by_cases c2 : 9 * k + 1 ≤ j ∧ j < 9 * k + v
        · rw [if_pos c2, if_pos (by omega)]
        · rw [if_neg c2, if_neg (by omega)]
