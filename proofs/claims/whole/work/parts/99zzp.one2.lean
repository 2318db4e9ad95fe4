theorem stA_f {v : Int} {C : bM} {o : Int} (hw : C 109 v = 4 * o) (ho : o = 0 ∨ o = 1) : b_fr [(4, some 9), (108, none)] C (stA v C) ∧ stA v C 4 9 = C 4 9 + o ∧ (∀ x, x < C 4 9 → stA v C 108 x = C 108 x) ∧ (o = 1 → stA v C 108 (C 4 9) = x_enc 0 7) ∧ (i_and (C 109 v) 4 = 0 ↔ o = 0) := by
  have e : i_and (C 109 v) 4 = 4 * o := by rw [hw, (i_8 (by omega)).2.2.1]; omega
  unfold stA
  rw [e]
  refine ⟨?_, ?_, fun x hx => ?_, fun z => ?_, by omega⟩
  · split
    · exact b_fr_refl
    · unfold em; exact b_frF (b_frA b_fr_refl (by decide)) (by decide)
  · split
    · omega
    · rw [em_f.2.1]; omega
  · split
    · rfl
    · rw [em_f.2.2, if_neg (by omega)]
  · rw [if_neg (by omega), em_f.2.2, if_pos rfl]
theorem t_one {cond : bM → Option (Int × bM)} {c : Int → Int} {n s p g v o a : Int} {C R : bM} {i k : Nat} {T j : Int} (hB : z_B c n) (hp2 : 192 ≤ p ∧ p < 216) (hs : 0 ≤ s) (hv : 0 ≤ v ∧ v < 6) (ho : o = 0 ∨ o = 1) (ha : a = 0 ∨ a = 1) (hg : 0 ≤ g)
    (hc : v < 5 → ∀ (g2 : Int) (C R : bM) (i k : Nat) (T j : Int), Pre c n s p g2 (v + 1) C R i k T j 0 → b_wp (cond R) (Pst c n s p g2 (v + 1) C R i k T 0 (stA (v + 1)) (fun i' _ => ¬ Wd c i' 18 ∧ ¬ Wd c i' 19) (TOP (v + 1) j C)))
    (h : Pre c n s p (g + a) v C R i k T j (4 * o + 2 * a)) : b_wp (rO cond R) (Pst c n s p g v C R i k T a id (fun _ o' => o' = o) (TOP v j C)) := by
  have nn := hB.1
  have hR49 : R 11 49 = v := h.2.1
  unfold rO
  refine b_Wb (b_wp_m (fun t z => ?_) (t_nots hB hv ho ha h))
  obtain ⟨q, Q⟩ := t
  obtain ⟨i1, nw, C1, j1, n1, n2, n3, n4, n5, n6, n7, n8, n9, n10, n11⟩ := z
  dsimp only at n1 n4 n6 n7 n8 n10 ⊢
  have rt : Rt c Q i1 := n7.2.1
  have ct : Ct c n C1 i1 := n7.1
  have qn := qT_n (i := i1) hB
  have i1b : (i1 : Int) ≤ qT c i1 := n7.2.2.1
  have so := so_cases rt
  have q49 : Q 11 49 = v := by rw [n4 11 49 (by decide)]; exact hR49
  have gd : Gdd Q (C1 108) s p T k := n7.2.2.2.2.2.2.2.1
  have c13 : C1 1 3 = qT c i1 := ct.2.1.2.2.1
  have q15 : Q 11 5 = qT c i1 := rt.2.1
  unfold rO_b
  rw [q49]
  refine b_Wi (fun y1 => ?_) (fun y1 => ?_)
  · have sg : Sg c i1 40 := so.2.1.mp y1
    have lt := (qT_s (i := i1) hB).2 (by rw [sg.1]; decide)
    have qn2 := qT_n (i := i1 + 1) hB
    refine b_Wi (fun y2 => b_We e_wrongR (b_Wtwo (b_Wg (Or.inl rfl) (b_Ws ?_)))) (fun y2 => b_Wg (by omega) (b_Wl ?_))
    · refine ⟨b_frF (b_frF (b_fr_mo (by decide) n4) (by decide)) (by decide), Fp_w (W := W_sc ++ [(11, some 8), (11, some 9)]) (b_frF (b_frF (b_fr_mo (by decide) n4) (by decide)) (by decide)) (by decide), Or.inl ⟨rfl, ?_⟩⟩
      subst y2
      refine ⟨b_up (b_up C1 1 5 4) 1 6 (C1 1 3), n2.trans (TOP_deep ct sg (by omega)), b_frF (b_frF (b_fr_mo (by decide) n3) (by decide)) (by decide), ?_, ?_⟩
      · exact (wr_f (M := C1) (k := 4)).1.trans (wrR_f (M := Q) (k := 4)).1.symm
      · refine (wr_f (M := C1) (k := 4)).2.trans (Eq.trans ?_ (wrR_f (M := Q) (k := 4)).2.symm)
        rw [c13, q15]
    · have v5 : v < 5 := by omega
      generalize hQ2 : b_up Q 11 49 (v + 1) = Q2
      have fQ2 : b_fr [(11, some 49)] Q Q2 := by subst hQ2; exact b_frF b_fr_refl (by decide)
      have q2 : Q2 11 49 = v + 1 := by subst hQ2; exact b_ups
      clear hQ2
      refine b_Wb (b_wp_m (fun P z => ?_) (t_scanT hB (Rt_k fQ2 (by decide) rt)))
      obtain ⟨z1, z2⟩ := z
      generalize hC2 : b_up C1 109 (v + 1) 0 = C2
      have f2 : b_fr [(109, none)] C1 C2 := by subst hC2; exact b_frA b_fr_refl (by decide)
      have c2v : C2 109 (v + 1) = 0 := by subst hC2; exact b_ups
      have c2u : ∀ u, u ≠ v + 1 → C2 109 u = C1 109 u := fun u hu => by subst hC2; exact b_upi hu
      obtain ⟨D, hD, d1, d2⟩ := b_wp_ex (t_stepT hB (Ct_k f2 (by decide) ct) (by omega))
      have eT := n2.trans (TOP_open ct sg (by omega) ⟨hv.1, v5⟩ (by rw [hC2]; exact hD))
      clear hC2
      have dk := b_kp1 d1 (show b_dis W_st [(109, none), (4, none), (108, none)] = true by decide)
      have fk := b_kp1 f2 (show b_dis [(109, none)] [(4, none), (108, none)] = true by decide)
      have frC : b_fr W_cC C D := b_fr_tr (b_fr_mo (by decide) n3) (b_fr_tr (b_fr_mo (by decide) f2) (b_fr_mo (by decide) d1))
      have frR : b_fr W_cR R P := b_fr_tr (b_fr_mo (by decide) n4) (b_fr_tr (b_fr_mo (by decide) fQ2) (b_fr_mo (by decide) z1))
      have fpP : Fp p R P := Fp_w (W := W_sc ++ [(11, some 49)]) (b_fr_tr (b_fr_mo (by decide) n4) (b_fr_tr (b_fr_mo (by decide) fQ2) (b_fr_mo (by decide) z1))) (by decide)
      obtain ⟨⟨_, _, _, r11⟩, rb⟩ := Rl_b.mp n7
      obtain ⟨rb1, rb2, rb3⟩ := Rb_k (W := W_sc ++ [(11, some 49)]) (dd := D 108) rb (fun x _ => by rw [dk 108 x rfl, fk 108 x rfl]) (b_fr_tr (b_fr_mo (by decide) fQ2) (b_fr_mo (by decide) z1)) (by decide)
      have e9 : D 4 9 = C1 4 9 := by rw [dk 4 9 rfl, fk 4 9 rfl]
      have pre : Pre c n s p (g + a + q) (v + 1) D P (i1 + 1) k T (j1 + 1) 0 := by
        refine ⟨Rl_b.mpr ⟨⟨d2, z2, by omega, ?_⟩, ?_⟩, ?_, ?_, by omega, by omega, by omega⟩
        · rw [dk 4 11 rfl, fk 4 11 rfl]; exact r11
        · rw [e9]; exact rb1
        · rw [z1 11 49 (by decide)]; exact q2
        · rw [dk 109 _ rfl]; exact c2v
      refine b_Wb (b_wp_m (fun x z => ?_) (hc v5 _ D P (i1 + 1) k T (j1 + 1) pre))
      obtain ⟨x15, S⟩ := x
      obtain ⟨w1, w2, w3⟩ := z
      dsimp only at w1 w2 w3
      refine b_Wtwo ?_
      dsimp only
      have fpS : Fp p R S := Fp_t fpP w2
      have d108 : ∀ x, x < s → D 108 x = C 108 x := fun x _ => by rw [dk 108 x rfl, fk 108 x rfl]; exact n3 108 x (by simp [b_ins, W_st])
      rcases w3 with ⟨w3, G, w4, w5, w6⟩ | ⟨w3, G, m, j3, i3, k3, T3, o3, r1, r2, r3, r4, r5, r6, r7, r8, r9, r10, r11', r12, r13, r14, r15, r16⟩
      · exact b_Wt w3 (b_Ws ⟨b_fr_tr (b_fr_mo (by decide) frR) (b_fr_mo (by decide) w1), fpS, Or.inl ⟨rfl, G, eT.trans w4, b_fr_tr (b_fr_mo (by decide) frC) (b_fr_mo (by decide) w5), w6⟩⟩)
      · refine b_Wf (by omega) ?_
        obtain ⟨st1, st2, st3, st4, st5⟩ := stA_f (v := v + 1) r6.1 r6.2
        have rtS : Rt c S i3 := r9.2.1
        have so3 := so_cases rtS
        have q3n := qT_n (i := i3) hB
        have i3b : (i3 : Int) ≤ qT c i3 := r9.2.2.1
        obtain ⟨⟨ctG, _, _, rG11⟩, rbG⟩ := Rl_b.mp r9
        have g9 : G 4 9 = s + x_q S p k3 + 0 - o3 := by have := rbG.2.2.2.2.1; omega
        have xq0 : 0 ≤ x_q S p k3 := rbG.2.2.2.2.2.2.2
        have g90 : 0 ≤ stA (v + 1) G 4 9 := by omega
        have gs : s ≤ G 4 9 := by
          by_cases z : o3 = 0
          · omega
          · have dpos : 1 ≤ x_q S p k3 := by
              have ks := rbG.2.2.2.1.2.2.2
              by_cases kz : k3 = 0
              · exfalso
                subst kz
                have d0 : x_dep S p 0 = 0 := rfl
                have := gd.2.2.1.1
                rw [rb3] at r11'
                omega
              · have := Spt_qm ks k3 0 (by omega)
                rw [show 0 + k3 = k3 by omega, show x_q S p 0 = 0 from rfl] at this
                omega
            omega
        have hb : 0 ≤ G 4 9 ∧ (i_and (G 109 (v + 1)) 4 = 0 ∨ G 4 9 < 1000) := by
          refine ⟨by omega, ?_⟩
          by_cases z : o3 = 0
          · exact Or.inl (st5.mpr z)
          · right; omega
        refine b_Wi (fun y3 => ?_) (fun y3 => b_We e_wrongR (b_Wtwo (b_Wg (Or.inl rfl) (b_Ws ?_))))
        · have sg3 : Sg c i3 41 := so3.2.2.1.mp y3
          have lt3 := (qT_s (i := i3) hB).2 (by rw [sg3.1]; decide)
          have q3n2 := qT_n (i := i3 + 1) hB
          rw [r10]
          refine b_Wg (by omega) (b_Wl ?_)
          rw [show v + 1 - 1 = v by omega]
          generalize hS2 : b_up S 11 49 v = S2
          have fS2 : b_fr [(11, some 49)] S S2 := by subst hS2; exact b_frF b_fr_refl (by decide)
          have s2 : S2 11 49 = v := by subst hS2; exact b_ups
          clear hS2
          refine b_Wb (b_wp_m (fun U z => ?_) (t_scanT hB (Rt_k fS2 (by decide) rtS)))
          obtain ⟨u1, u2⟩ := z
          have sk := b_kp1 st1 (show b_dis [(4, some 9), (108, none)] [(109, none), (4, some 11)] = true by decide)
          have gv : stA (v + 1) G 109 v = 4 * o + 2 * a + q := by
            rw [sk 109 v rfl, r5 v (by omega), dk 109 v rfl, c2u v (by omega)]; exact n6
          obtain ⟨E, hE, e1, e2, e3, e4, e5, e6, e7⟩ := e_settleOne (v := v) hv gv ho ha n1 ⟨g90, by omega⟩
          have ctE : Ct c n E i3 := Ct_k e1 (by decide) ctG
          obtain ⟨L, hL, l1, l2⟩ := b_wp_ex (t_stepT hB ctE (by omega))
          have lk := b_kp1 l1 (show b_dis W_st [(109, none), (4, none), (108, none)] = true by decide)
          have eA := AFT_close (j := j3) (m := m) (v := v + 1) r8 sg3 (by omega) (by omega) hb (by rw [show v + 1 - 1 = v by omega]; exact hE) hL
          rw [show v + 1 - 1 = v by omega] at eA
          obtain ⟨rc1, rc2, rc3⟩ := Rb_k (W := W_sc ++ [(11, some 49)]) (dd := stA (v + 1) G 108) rbG (fun x _ => rfl) (b_fr_tr (b_fr_mo (by decide) fS2) (b_fr_mo (by decide) u1)) (by decide)
          have fpU : Fp p R U := Fp_t fpS (Fp_w (W := W_sc ++ [(11, some 49)]) (b_fr_tr (b_fr_mo (by decide) fS2) (b_fr_mo (by decide) u1)) (by decide))
          have frU : b_fr W_cR R U := b_fr_tr frR (b_fr_tr r16 (b_fr_tr (b_fr_mo (by decide) fS2) (b_fr_mo (by decide) u1)))
          have mul1 : (8 - v) * (T3 - T) = (8 - (v + 1)) * (T3 - T) + (T3 - T) := by
            rw [show (8 : Int) - v = (8 - (v + 1)) + 1 by omega, Int.add_mul, Int.one_mul]
          have mul2 : (8 - v) * (T3 - T) ≤ 8 * (T3 - T) := Int.mul_le_mul_of_nonneg_right (by omega) (by omega)
          have kT8 := gd.2.1
          refine b_wp_m (fun x z => ?_) (t_fin (dd := L 108) (f9 := L 4 9) (q := q) (a := a) hp2 rc1 n1 ha (fun x hx => by rw [lk 108 x rfl]; exact e5 x hx) (fun z => by rw [lk 108 _ rfl]; exact e6 z) (fun z => by rw [lk 108 _ rfl]; exact e7 z) (by rw [lk 4 9 rfl]; exact e4) (by rw [rc3, r11', rb3]; have := gd.2.2.1.1; omega) (by omega))
          obtain ⟨x1, x2, x3, k4, x4, x5, x6⟩ := z
          have frX : b_fr W_cR R x.2 := b_fr_tr frU (b_fr_mo (by decide) x2)
          refine ⟨b_fr_mo (by decide) frX, Fp_t fpU x3, Or.inr ⟨x1, L, m + 1, j3, i3 + 1, k4, T3, o, (eT.trans r1).trans eA, by omega, by omega, ?_, fun u hu => ?_, ⟨?_, ho⟩, fun x hx => ?_, l2, Rl_b.mpr ⟨⟨l2, Rt_k x2 (by decide) u2, by omega, ?_⟩, x4⟩, ?_, ?_, ⟨by omega, by omega⟩, ?_, by omega, rfl, frX⟩⟩
          · exact b_fr_tr frC (b_fr_tr r4 (b_fr_tr (b_fr_mo (by decide) st1) (b_fr_tr (b_fr_mo (by decide) e1) (b_fr_mo (by decide) l1))))
          · rw [lk 109 u rfl, e2 u (by omega), sk 109 u rfl, r5 u (by omega), dk 109 u rfl, c2u u (by omega)]; exact n5 u (by omega)
          · rw [lk 109 v rfl]; exact e3
          · rw [lk 108 x rfl, e5 x (by omega), st3 x (by omega), r7 x hx]; exact d108 x hx
          · show L 4 11 = T3
            rw [lk 4 11 rfl, e1 4 11 (by decide)]; exact rG11
          · rw [x2 11 49 (by decide), u1 11 49 (by decide)]; exact s2
          · rw [x5, rc3, r11', rb3, n8]
          · show L 4 9 + g ≤ _
            rw [lk 4 9 rfl, e4]; omega
        · have nsg : ¬ Sg c i3 41 := fun z => y3 (so3.2.2.1.mpr z)
          refine ⟨b_frF (b_frF (b_fr_tr (b_fr_mo (by decide) frR) (b_fr_mo (by decide) r16)) (by decide)) (by decide), Fp_t fpS (Fp_w (W := [(11, some 8), (11, some 9)]) (b_frF (b_frF b_fr_refl (by decide)) (by decide)) (by decide)), Or.inl ⟨rfl, ?_⟩⟩
          have eE := AFT_end (j := j3) (m := m) (v := v + 1) r8 r15.1 r15.2 (Or.inl nsg) (by omega) hb
          rw [if_neg (by omega)] at eE
          refine ⟨_, (eT.trans r1).trans eE, ?_, ?_, ?_⟩
          · exact b_frF (b_frF (b_fr_tr (b_fr_mo (by decide) frC) (b_fr_tr (b_fr_mo (by decide) r4) (b_fr_mo (by decide) st1))) (by decide)) (by decide)
          · exact (wr_f (M := stA (v + 1) G) (k := 1)).1.trans (wrR_f (M := S) (k := 1)).1.symm
          · refine (wr_f (M := stA (v + 1) G) (k := 1)).2.trans (Eq.trans ?_ (wrR_f (M := S) (k := 1)).2.symm)
            rw [show stA (v + 1) G 1 3 = qT c i3 from ctG.2.1.2.2.1, show S 11 5 = qT c i3 from rtS.2.1]
  · have nsg : ¬ Sg c i1 40 := fun z => y1 (so.2.1.mpr z)
    refine b_Wb (b_wp_m (fun x z => ?_) (t_test (g := g + a + q) hB n7 hp2 hs ⟨by have := h.2.2.2.2.1; omega, by omega⟩))
    obtain ⟨x6, S⟩ := x
    obtain ⟨z1, z2, z3⟩ := z
    dsimp only at z1 z2 z3
    refine b_Wtwo ?_
    dsimp only
    have fpS : Fp p R S := Fp_t (Fp_w n4 (by decide)) z2
    rcases z3 with ⟨z3, D, z4, z5, z6⟩ | ⟨z3, z4, z5, D, i2, z6, z7, z8, z9, z10, z11, z12⟩
    · refine b_Wt z3 (b_Ws ⟨b_fr_tr (b_fr_mo (by decide) n4) (b_fr_mo (by decide) z1), fpS, Or.inl ⟨rfl, D, n2.trans (TOP_bad ct nw nsg (by omega) z4), ?_, z6⟩⟩)
      exact b_fr_tr (b_fr_mo (by decide) n3) (b_fr_mo (by decide) z5)
    · refine b_Wf (by omega) ?_
      have qn2 := qT_n (i := i2) hB
      obtain ⟨⟨ctD, rtS, i2b, rD11⟩, rbD⟩ := Rl_b.mp z9
      have d9 : D 4 9 = s + x_q S p (k + 1) + 0 := rbD.2.2.2.2.1
      have xq0 : 0 ≤ x_q S p (k + 1) := rbD.2.2.2.2.2.2.2
      have dv : D 109 v = 4 * o + 2 * a + q := by rw [z7 109 v (by simp [b_ins, W_tC, W_sumC])]; exact n6
      obtain ⟨E, hE, e1, e2, e3, e4, e5, e6, e7⟩ := e_settleOne (v := v) hv dv ho ha n1 ⟨by omega, by omega⟩
      have ctE : Ct c n E i2 := Ct_k e1 (by decide) ctD
      have eA := n2.trans (TOP_test ct nw nsg (by omega) z6 hE)
      have gd2 := gd.2.1
      have gd3 := gd.2.2.1.1
      have gd1 := gd.1
      refine b_wp_m (fun x z => ?_) (t_fin (dd := E 108) (f9 := E 4 9) (q := q) (a := a) hp2 rbD n1 ha e5 e6 e7 e4 (by rw [z10]; omega) (by omega))
      obtain ⟨x1, x2, x3, k4, x4, x5, x6⟩ := z
      have frX : b_fr W_cR R x.2 := b_fr_tr (b_fr_mo (by decide) n4) (b_fr_tr (b_fr_mo (by decide) z5) (b_fr_mo (by decide) x2))
      have n49 : S 11 49 = v := by rw [z5 11 49 (by decide)]; exact q49
      refine ⟨b_fr_mo (by decide) frX, Fp_t fpS x3, Or.inr ⟨x1, E, 0, j1, i2, k4, T + 1, o, eA, by omega, by omega, ?_, fun u hu => ?_, ⟨e3, ho⟩, fun x hx => ?_, ctE, Rl_b.mpr ⟨⟨ctE, Rt_k x2 (by decide) rtS, i2b, ?_⟩, x4⟩, ?_, ?_, ⟨by omega, ?_⟩, ?_, by omega, rfl, frX⟩⟩
      · exact b_fr_tr (b_fr_mo (by decide) n3) (b_fr_tr (b_fr_mo (by decide) z7) (b_fr_mo (by decide) e1))
      · rw [e2 u (by omega), z7 109 u (by simp [b_ins, W_tC, W_sumC])]; exact n5 u (by omega)
      · rw [e5 x (by omega), z8 x hx]; exact n3 108 x (by simp [b_ins, W_st])
      · show E 4 11 = T + 1
        rw [e1 4 11 (by decide)]; exact rD11
      · rw [x2 11 49 (by decide)]; exact n49
      · rw [x5, z10, n8]
      · rw [show T + 1 - T = 1 by omega, Int.mul_one]; omega
      · show E 4 9 + g ≤ _
        omega
