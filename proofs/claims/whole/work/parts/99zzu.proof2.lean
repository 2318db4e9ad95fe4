def aP (C : bM) (cc : Nat) (N v1 v2 v3 : Int) : bM := b_up (b_up (b_up C (cc + 20) N (v1 * 100 + v2)) cc 1 (N + 1)) (cc + 40) (N + 1) v3
theorem e_addProof {C : bM} {cc : Nat} {N v1 v2 v3 : Int} (hc : 12 ≤ cc ∧ cc < 22) (hN : C cc 1 = N) (h : 0 ≤ N ∧ N < 24) (hv1 : 0 ≤ v1 ∧ v1 ≤ 6) (hv2 : 0 ≤ v2 ∧ v2 ≤ 99) : F_X0_addProof_a cc v1 v2 v3 C = some (aP C cc N v1 v2 v3) := by
  refine b_eqn ?_
  unfold F_X0_addProof_a
  rw [hN]
  refine b_Wg hc (b_Wf (by omega) (b_Wg (by omega) (b_Wl ?_)))
  rw [b_upc (show cc ≠ cc + 20 by omega), hN]
  refine b_Wg (by omega) (b_Wl ?_)
  rw [b_ups]
  exact b_Wg (by omega) (b_Wl (b_Ws rfl))
theorem aP_f {C : bM} {cc : Nat} {N v1 v2 v3 : Int} : (∀ z j, z ≠ cc → z ≠ cc + 20 → z ≠ cc + 40 → aP C cc N v1 v2 v3 z j = C z j) ∧ aP C cc N v1 v2 v3 cc 1 = N + 1 ∧ (∀ j, aP C cc N v1 v2 v3 (cc + 20) j = if j = N then v1 * 100 + v2 else C (cc + 20) j) ∧ ∀ j, aP C cc N v1 v2 v3 (cc + 40) j = if j = N + 1 then v3 else C (cc + 40) j := by
  unfold aP
  refine ⟨fun z j h1 h2 h4 => ?_, ?_, fun j => ?_, fun j => ?_⟩
  · rw [b_upc h4, b_upc h1, b_upc h2]
  · rw [b_upc (by omega), b_ups]
  · rw [b_upc (by omega), b_upc (by omega), b_upJ]
  · rw [b_upJ, b_upc (by omega), b_upc (by omega)]
def W_pR : bW := W_cR ++ [(11, some 8), (11, some 9), (11, some 48), (183, none), (184, none), (185, none)]
def Frr (p : Int) (R Q : bM) : Prop := Fp p R Q ∧ (∀ j, j ≠ p → Q 184 j = R 184 j ∧ Q 185 j = R 185 j) ∧ (∀ j, j ≠ 98 → Q 183 j = R 183 j) ∧ b_fr W_pR R Q
theorem Frr_t {p : Int} {R Q S : bM} (h : Frr p R Q) (h2 : Frr p Q S) : Frr p R S := by
  refine ⟨Fp_t h.1 h2.1, fun j hj => ?_, fun j hj => (h2.2.2.1 j hj).trans (h.2.2.1 j hj), b_fr_tr h.2.2.2 h2.2.2.2⟩
  rw [(h2.2.1 j hj).1, (h2.2.1 j hj).2]
  exact h.2.1 j hj
theorem Frr_w {W : bW} {p : Int} {R Q : bM} (f : b_fr W R Q) (hp : Fp p R Q) (hs : b_sbs W W_pR = true) (d : b_dis W [(183, none), (184, none), (185, none)] = true) : Frr p R Q := by
  have k := b_kp1 f d
  exact ⟨hp, fun j _ => ⟨k 184 j rfl, k 185 j rfl⟩, fun j _ => k 183 j rfl, b_fr_mo hs f⟩
theorem Frr_x {W : bW} {p : Int} {R Q : bM} (f : b_fr W R Q) (hs : b_sbs W W_pR = true) (d : b_dis W [(183, none), (184, none), (185, none), (186, none), (187, none), (188, none), (189, none), (190, none), (191, none), (192, none), (193, none)] = true) : Frr p R Q := by
  have k := b_kp1 f d
  exact ⟨⟨fun j _ => ⟨k 186 j rfl, k 187 j rfl⟩, fun j _ => k 188 j rfl, fun j _ => ⟨k 189 j rfl, k 190 j rfl, k 191 j rfl⟩, fun j _ => ⟨k 192 j rfl, k 193 j rfl⟩, fun z j => by rw [k 193 j rfl]; exact z j⟩, fun j _ => ⟨k 184 j rfl, k 185 j rfl⟩, fun j _ => k 183 j rfl, b_fr_mo hs f⟩
/-- no FAULT was set -/
def Nfl (C R D Q : bM) : Prop := (D 1 5 = C 1 5 ∧ D 1 6 = C 1 6) ∧ Q 11 8 = R 11 8 ∧ Q 11 9 = R 11 9
theorem Nfl_t {C R D Q E S : bM} (h : Nfl C R D Q) (g : Nfl D Q E S) : Nfl C R E S := ⟨⟨g.1.1.trans h.1.1, g.1.2.trans h.1.2⟩, g.2.1.trans h.2.1, g.2.2.trans h.2.2⟩
def Pf (c : Int → Int) (n : Int) (C R : bM) (cc i N : Nat) (r : Option (Int × bM)) (x : Int × bM) : Prop := Frr (192 + N) R x.2 ∧ ((x.1 = 0 ∧ ∃ D, r = some (0, D) ∧ Fc cc C D ∧ D 1 5 = x.2 11 8 ∧ D 1 6 = x.2 11 9) ∨ (x.1 = 1 ∧ ∃ D i', r = some (1, D) ∧ Fc cc C D ∧ Cl c n D x.2 cc i' (N + 1) ∧ qT c i < qT c i' ∧ D 4 10 = C 4 10 ∧ (∀ j, D (cc + 10) j = C (cc + 10) j) ∧ Nfl C R D x.2))
theorem slot_in {cc z : Nat} {j : Int} (hc : 12 ≤ cc ∧ cc < 22) (h : ¬ (12 ≤ z ∧ z < 62 ∧ z % 10 = cc % 10 ∧ (z < 52 ∨ j ≠ 0))) : z ≠ cc ∧ z ≠ cc + 20 ∧ z ≠ cc + 30 ∧ (z = cc + 40 → j = 0) := by omega
/-- the end of a proof -/
theorem t_pfin {c : Int → Int} {n : Int} {C R D Q : bM} {cc i i' N : Nat} {k v : Int} (h : Cl c n C R cc i N) (hN : N < 24) (fr : Frr (192 + N) R Q) (q98 : Q 183 98 = N) (hD : Fc cc C D) (hDs : ∀ (z : Nat) (j : Int), 12 ≤ z → z < 62 → D z j = C z j) (hC : Ct c n D i') (hR : Rt c Q i') (hi : (i' : Int) ≤ qT c i') (h8 : ∀ x, x < C 4 9 → D 108 x = C 108 x) (h9 : C 4 9 ≤ D 4 9 ∧ D 4 9 ≤ qT c i') (h10 : D 4 10 = C 4 10) (hq : qT c i < qT c i') (hk : Q 184 (192 + N) = k ∧ Q 185 (192 + N) = v) (hk0 : 0 ≤ k ∧ k ≤ 6) (hP : Pc Q (D 108) (C 4 9) (D 4 9) (192 + N) ∧ W_prog Q (192 + N)) (nf : Nfl C R D Q) : b_wp (F_X12_readProof_b165 Q) (Pf c n C R cc i N (F_X1_readProof_b118 k v D)) := by
  obtain ⟨⟨a1, a2, a3⟩, ⟨b1, b2, b3⟩, ⟨c1, c2, c3⟩, ⟨d1, d2, d3, d4⟩, e1, f1⟩ := h
  have D48 : D 4 8 = cc := by rw [hD 4 8 (by decide) (by omega)]; exact b1
  have tn : (D 4 8).toNat = cc := by rw [D48]; omega
  have Dc1 : D cc 1 = N := by rw [hDs cc 1 (by omega) (by omega)]; exact c1
  unfold F_X12_readProof_b165
  refine b_Wg (by omega) (b_Wl (b_Ws ?_))
  have hv0 : 0 ≤ v ∧ v ≤ 99 := by rw [← hk.2]; exact hP.2.2.1
  have e118 : F_X1_readProof_b118 k v D = some (1, aP D cc N k v (D 4 9)) := by
    refine b_eqn ?_
    unfold F_X1_readProof_b118
    rw [tn]
    exact b_Wg ⟨by omega, by omega⟩ (b_We (e_addProof ⟨b2, b3⟩ Dc1 (by omega) hk0 hv0) (b_Ws rfl))
  generalize hG : aP D cc N k v (D 4 9) = G at e118
  obtain ⟨g1, g2, g3, g5⟩ := aP_f (C := D) (cc := cc) (N := (N : Int)) (v1 := k) (v2 := v) (v3 := D 4 9)
  rw [hG] at g1 g2 g3 g5
  clear hG
  generalize hS : b_up Q 183 98 (Q 183 98 + 1) = S
  have fS : b_fr [(183, none)] Q S := by subst hS; exact b_frA b_fr_refl (by decide)
  have s98 : S 183 98 = N + 1 := by subst hS; rw [b_ups, q98]
  have s83 : ∀ j, j ≠ 98 → S 183 j = Q 183 j := fun j hj => by subst hS; exact b_upi hj
  clear hS
  have sk := b_kp1 fS (show b_dis [(183, none)] [(184, none), (185, none), (186, none), (187, none), (188, none), (189, none), (190, none), (191, none), (192, none), (193, none), (11, none)] = true by decide)
  have frS : Frr (192 + N) Q S := ⟨Fp_w fS (by decide), fun j _ => ⟨sk 184 j rfl, sk 185 j rfl⟩, s83, b_fr_mo (by decide) fS⟩
  have frA := Frr_t fr frS
  have G49 : G 4 9 = D 4 9 := g1 4 9 (by omega) (by omega) (by omega)
  have G108 : ∀ x, G 108 x = D 108 x := fun x => g1 108 x (by omega) (by omega) (by omega)
  have Gs : ∀ (z : Nat) (j : Int), z = 1 ∨ z = 72 ∨ z = 104 ∨ z = 105 ∨ z = 106 → G z j = D z j := fun z j hz => g1 z j (by omega) (by omega) (by omega)
  have n3 : N3 S := fun j => by rw [sk 193 j rfl]; exact fr.1.2.2.2.2 e1 j
  refine ⟨frA, Or.inr ⟨rfl, G, i', e118, fun z j hz1 hz2 => ?_, ⟨⟨Ct_p Gs hC, Rt_k fS (by decide) hR, hi⟩, ⟨?_, b2, b3⟩, ⟨?_, ?_, by omega⟩, ⟨?_, ?_, ?_, ?_⟩, n3, fun j j0 j1 => ?_⟩, hq, ?_, fun j => ?_, Nfl_t nf ⟨⟨g1 1 5 (by omega) (by omega) (by omega), g1 1 6 (by omega) (by omega) (by omega)⟩, sk 11 8 rfl, sk 11 9 rfl⟩⟩⟩
  · obtain ⟨x1, x2, x3, x4⟩ := slot_in ⟨b2, b3⟩ hz2
    by_cases e : z = cc + 40
    · have ej := x4 e
      subst e
      rw [g5, if_neg (by omega)]
      exact hD _ j hz1 hz2
    · rw [g1 z j x1 x2 e]
      exact hD z j hz1 hz2
  · rw [g1 4 8 (by omega) (by omega) (by omega)]; exact D48
  · rw [g2]; omega
  · dsimp only; rw [s98]; omega
  · rw [g5, if_pos (by omega), G49]
  · rw [g5, if_neg (by omega), hDs (cc + 40) 0 (by omega) (by omega)]; exact d2
  · rw [G49]; omega
  · rw [G49]; exact h9.2
  · by_cases ej : j = N
    · subst ej
      have mv := Pc_mv (Q := S) (dd := G 108) (r := 192 + (N : Int)) hP.1 hP.2 (sk 185 _ rfl) (sk 187 _ rfl) (fun m _ _ => sk 188 _ rfl) (fun t _ _ => ⟨sk 189 _ rfl, sk 190 _ rfl, sk 191 _ rfl⟩) (fun y _ _ => ⟨sk 192 _ rfl, sk 193 _ rfl⟩) (fun x _ _ => G108 x)
      unfold Pj
      dsimp only
      rw [g3, if_pos rfl, g5, if_neg (by omega), g5, if_pos rfl, G49, sk 184 _ rfl, sk 185 _ rfl, hDs (cc + 40) N (by omega) (by omega), d1]
      refine ⟨⟨by rw [hk.1, hk.2], by rw [hk.1]; exact hk0⟩, d3, Int.le_refl _, mv.1, mv.2⟩
    · exact Pj_k (D := G) (Q := S) (p := 192 + (N : Int)) rfl f1 frA.1 frA.2.1 (fun y y0 y1 => by rw [g3, if_neg (by omega)]; exact hDs _ _ (by omega) (by omega)) (fun y y0 y1 => by rw [g5, if_neg (by omega)]; exact hDs _ _ (by omega) (by omega)) (fun x hx => by rw [G108]; exact h8 x hx) (by rw [G49]; exact h9.1) j j0 (by omega)
  · rw [g1 4 10 (by omega) (by omega) (by omega)]; exact h10
  · rw [g1 (cc + 10) j (by omega) (by omega) (by omega)]; exact hDs _ _ (by omega) (by omega)
