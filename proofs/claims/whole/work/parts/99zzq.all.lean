theorem kL_18 : kL 18 = 2 ∧ kL 19 = 3 := by decide
theorem t_all {one : bM → Option (Int × bM)} {c : Int → Int} {n s p g v o : Int} {C R : bM} {i k : Nat} {T j : Int} (hB : z_B c n) (hp2 : 192 ≤ p ∧ p < 216) (hs : 0 ≤ s) (hv : 0 ≤ v ∧ v < 6) (ho : o = 0 ∨ o = 1) (hg : 0 ≤ g)
    (h1 : ∀ (g2 a : Int) (C R : bM) (i k : Nat) (T j : Int), 0 ≤ g2 → (a = 0 ∨ a = 1) → Pre c n s p (g2 + a) v C R i k T j (4 * o + 2 * a) → b_wp (one R) (Pst c n s p g2 v C R i k T a id (fun _ o' => o' = o) (TOP v j C)))
    (h : Pre c n s p g v C R i k T j (4 * o)) : b_wp (rA one R) (Pst c n s p g v C R i k T 0 id (fun i' o' => ¬ Wd c i' 19 ∧ o' = o) (TOP v j C)) := by
  have nn := hB.1
  have gd : Gdd R (C 108) s p T k := h.1.2.2.2.2.2.2.2.1
  unfold rA
  refine b_Wb (b_wp_m (fun x z => ?_) (h1 g 0 C R i k T j hg (Or.inl rfl) (by rw [show g + 0 = g by omega, show 4 * o + 2 * 0 = 4 * o by omega]; exact h)))
  obtain ⟨x1, Q⟩ := x
  obtain ⟨z1, z2, z3⟩ := z
  dsimp only at z1 z2 z3
  refine b_Wtwo ?_
  dsimp only
  rcases z3 with ⟨z3, z4⟩ | ⟨z3, z4⟩
  · exact b_Wt z3 (b_Ws ⟨z1, z2, Or.inl ⟨rfl, z4⟩⟩)
  refine b_Wf (by omega) (b_Wb (b_wp_m (fun r z => ?_) (b_loop_ind (P := Sum.elim (fun Q : bM => Pst c n s p g v C R i k T 0 id (fun i' o' => ¬ Wd c i' 19 ∧ o' = o) (TOP v j C) (1, Q)) (fun x : Int × bM => Pst c n s p g v C R i k T 0 id (fun i' o' => ¬ Wd c i' 19 ∧ o' = o) (TOP v j C) x)) (I := fun Q : bM => Fp p R Q ∧ Dn c n s p g v C R i k T 0 id (fun _ o' => o' = o) (TOP v j C) Q) (fun Q => (1001 - Q 11 5).toNat) ?_ Q ⟨z2, z4⟩)))
  · rcases r with r | r
    · unfold F_X12_readAll_L5_b47
      exact b_Ws z
    · exact b_Ws z
  clear z1 z2 z3 z4
  intro Q ⟨fp, D, m, j1, i1, k1, T1, o1, r1, r2, r3, r4, r5, r6, r7, r8, r9, r10, r11, r12, r13, r14, r15, r16⟩
  subst r15
  have rt : Rt c Q i1 := r9.2.1
  have qn := qT_n (i := i1) hB
  have i1b : (i1 : Int) ≤ qT c i1 := r9.2.2.1
  have out : ¬ Wd c i1 19 → Pst c n s p g v C R i k T 0 id (fun i' o' => ¬ Wd c i' 19 ∧ o' = o1) (TOP v j C) (1, Q) := fun w => ⟨b_fr_mo (by decide) r16, fp, Or.inr ⟨rfl, D, m, j1, i1, k1, T1, o1, r1, r2, r3, r4, r5, r6, r7, r8, r9, r10, r11, r12, r13, r14, ⟨w, rfl⟩, r16⟩⟩
  unfold rA_s
  refine b_Wi (fun y1 => b_Wi (fun y2 => ?_) (fun y2 => b_Ws (out (fun w => y2 ((kR_is rt 19 (by decide)).mpr w).2)))) (fun y1 => b_Ws (out (fun w => y1 ((kR_is rt 19 (by decide)).mpr w).1)))
  have w : Wd c i1 19 := (kR_is rt 19 (by decide)).mp ⟨y1, y2⟩
  have lw := qT_w hB w.1 w.2 (by decide)
  rw [kL_18.2] at lw
  have qn2 := qT_n (i := i1 + 1) hB
  refine b_Wb (b_wp_m (fun P z => ?_) (t_scanT hB rt))
  obtain ⟨u1, u2⟩ := z
  generalize hC2 : b_up D 109 v (i_or (D 109 v) 2) = C2
  have f2 : b_fr [(109, none)] D C2 := by subst hC2; exact b_frA b_fr_refl (by decide)
  have c2v : C2 109 v = 4 * o1 + 2 * 1 := by
    subst hC2
    rw [b_ups, r6.1, (i_8 (by omega)).2.2.2.2.1]
    omega
  have c2u : ∀ u, u ≠ v → C2 109 u = D 109 u := fun u hu => by subst hC2; exact b_upi hu
  obtain ⟨L, hL, l1, l2⟩ := b_wp_ex (t_stepT hB (Ct_k f2 (by decide) r8) (by omega))
  have eA := r1.trans (AFT_and r8 w hv (by omega) (by rw [hC2]; exact hL))
  clear hC2
  have lk := b_kp1 l1 (show b_dis W_st [(109, none), (4, none), (108, none)] = true by decide)
  have fk := b_kp1 f2 (show b_dis [(109, none)] [(4, none), (108, none)] = true by decide)
  obtain ⟨⟨_, _, _, rD11⟩, rb⟩ := Rl_b.mp r9
  obtain ⟨rb1, rb2, rb3⟩ := Rb_k (dd := L 108) rb (fun x _ => by rw [lk 108 x rfl, fk 108 x rfl]; rfl) u1 (by decide)
  have e9 : L 4 9 = D 4 9 := by rw [lk 4 9 rfl, fk 4 9 rfl]
  have r13' : D 4 9 + g ≤ qT c i1 := r13
  have pre : Pre c n s p (g + 1) v L P (i1 + 1) k1 T1 (j1 + 1) (4 * o1 + 2 * 1) := by
    refine ⟨Rl_b.mpr ⟨⟨l2, u2, by omega, ?_⟩, ?_⟩, ?_, ?_, by omega, by omega, by omega⟩
    · rw [lk 4 11 rfl, fk 4 11 rfl]; exact rD11
    · rw [e9]; exact rb1
    · rw [u1 11 49 (by decide)]; exact r10
    · rw [lk 109 _ rfl]; exact c2v
  refine b_Wb (b_wp_m (fun x z => ?_) (h1 g 1 L P (i1 + 1) k1 T1 (j1 + 1) hg (Or.inr rfl) pre))
  obtain ⟨x7, S⟩ := x
  obtain ⟨z1, z2, z3⟩ := z
  dsimp only at z1 z2 z3
  refine b_Wtwo ?_
  dsimp only
  have frC : b_fr W_cC C L := b_fr_tr r4 (b_fr_tr (b_fr_mo (by decide) f2) (b_fr_mo (by decide) l1))
  have frP : b_fr W_cR R P := b_fr_tr r16 (b_fr_mo (by decide) u1)
  have fpS : Fp p R S := Fp_t fp (Fp_t (Fp_w u1 (by decide)) z2)
  rcases z3 with ⟨z3, G, w4, w5, w6⟩ | ⟨z3, G, m3, j3, i3, k3, T3, o3, t1, t2, t3, t4, t5, t6, t7, t8, t9, t10, t11, t12, t13, t14, t15, t16⟩
  · exact b_Wt z3 (b_Ws ⟨b_fr_tr (b_fr_mo (by decide) frP) (b_fr_mo (by decide) z1), fpS, Or.inl ⟨rfl, G, eA.trans w4, b_fr_tr (b_fr_mo (by decide) frC) (b_fr_mo (by decide) w5), w6⟩⟩)
  subst t15
  obtain ⟨⟨_, rtS, i3b, rG11⟩, rbG⟩ := Rl_b.mp t9
  have gd3 := rbG.2.2.2.1
  have d0 := gd.2.2.1.1
  have kT8 := gd.2.1
  have mul1 : (8 - v) * (T3 - T) = (8 - v) * (T3 - T1) + (8 - v) * (T1 - T) := by
    rw [← Int.mul_add, show T3 - T1 + (T1 - T) = T3 - T by omega]
  have mul2 : (8 - v) * (T3 - T) ≤ 8 * (T3 - T) := Int.mul_le_mul_of_nonneg_right (by omega) (by omega)
  have T12 := gd3.1
  have e9G : id G 4 9 = s + x_q S p k3 + 1 := rbG.2.2.2.2.1
  have lagc : id G 108 (s + x_q S p k3) = x_enc 0 6 := by
    rcases rbG.2.2.2.2.2.1 with q | q
    · exact absurd q (by decide)
    · exact q.2
  obtain ⟨g1, g2, g3⟩ := Rb_op (dd := id G 108) (f9 := id G 4 9) (lh := 0) (y := -1) rbG (fun x _ => rfl) (Or.inr (Or.inl rfl)) (by rw [if_neg (by decide), t11, rb3, r11]; omega) (by rw [lagc]; rfl) (by omega) (Or.inl rfl) (by omega)
  rw [if_neg (by decide)] at g3
  have q3n := qT_n (i := i3) hB
  refine b_Wf (by omega) (b_We (e_addStep rbG.1 hp2 rbG.2.2.1 ⟨by omega, by omega⟩) (b_Ws ⟨⟨Fp_t fpS (Fp_a (by omega)), G, m3, j3, i3, k3 + 1, T3, o3, eA.trans t1, t2, t3, b_fr_tr frC t4, fun u hu => ?_, t6, fun x hx => ?_, t8, Rl_b.mpr ⟨⟨t8, Rt_k aS_fr (by decide) rtS, i3b, rG11⟩, g1⟩, ?_, ?_, ⟨by omega, by omega⟩, t13, by omega, rfl, b_fr_tr frP (b_fr_tr t16 (b_fr_mo (by decide) aS_fr))⟩, ?_⟩))
  · rw [t5 u hu, lk 109 u rfl, c2u u (by omega)]; exact r5 u hu
  · rw [t7 x hx, lk 108 x rfl, fk 108 x rfl]; exact r7 x hx
  · rw [(aS_fr (R := S)) 11 49 (by decide)]; exact t10
  · rw [g3, t11, rb3, r11]; omega
  · show (1001 - aS S p k3 (-1) 11 5).toNat < (1001 - Q 11 5).toNat
    rw [(aS_fr (R := S)) 11 5 (by decide), show S 11 5 = qT c i3 from rtS.2.1, show Q 11 5 = qT c i1 from rt.2.1]
    omega
theorem stA_0 {v : Int} {C : bM} (hw : C 109 v = 4 * 0) : stA v C = C := by
  unfold stA
  rw [if_pos (by rw [hw]; decide)]
theorem t_cond {all : bM → Option (Int × bM)} {c : Int → Int} {n s p g v : Int} {C R : bM} {i k : Nat} {T j : Int} (hB : z_B c n) (hp2 : 192 ≤ p ∧ p < 216) (hs : 0 ≤ s) (hv : 0 ≤ v ∧ v < 6) (hg : 0 ≤ g)
    (h1 : ∀ (g2 o : Int) (C R : bM) (i k : Nat) (T j : Int), 0 ≤ g2 → (o = 0 ∨ o = 1) → Pre c n s p g2 v C R i k T j (4 * o) → b_wp (all R) (Pst c n s p g2 v C R i k T 0 id (fun i' o' => ¬ Wd c i' 19 ∧ o' = o) (TOP v j C)))
    (h : Pre c n s p g v C R i k T j 0) : b_wp (rC all R) (Pst c n s p g v C R i k T 0 (stA v) (fun i' _ => ¬ Wd c i' 18 ∧ ¬ Wd c i' 19) (TOP v j C)) := by
  have nn := hB.1
  have gd : Gdd R (C 108) s p T k := h.1.2.2.2.2.2.2.2.1
  unfold rC
  refine b_Wb (b_wp_m (fun x z => ?_) (h1 g 0 C R i k T j hg (Or.inl rfl) (by rw [show (4 : Int) * 0 = 0 by omega]; exact h)))
  obtain ⟨x1, Q⟩ := x
  obtain ⟨z1, z2, z3⟩ := z
  dsimp only at z1 z2 z3
  refine b_Wtwo ?_
  dsimp only
  rcases z3 with ⟨z3, z4⟩ | ⟨z3, z4⟩
  · exact b_Wt z3 (b_Ws ⟨z1, z2, Or.inl ⟨rfl, z4⟩⟩)
  have z5 : Dn c n s p g v C R i k T 0 (stA v) (fun i' _ => ¬ Wd c i' 19) (TOP v j C) Q := by
    obtain ⟨D, m, j1, i1, k1, T1, o1, r1, r2, r3, r4, r5, r6, r7, r8, r9, r10, r11, r12, r13, r14, r15, r16⟩ := z4
    obtain ⟨ra, rb⟩ := r15
    subst rb
    have e := stA_0 r6.1
    exact ⟨D, m, j1, i1, k1, T1, 0, r1, r2, r3, r4, r5, r6, r7, r8, by rw [e]; exact r9, r10, r11, r12, by rw [e]; exact r13, r14, ra, r16⟩
  clear z4
  refine b_Wf (by omega) (b_Wb (b_wp_m (fun r z => ?_) (b_loop_ind (P := Sum.elim (fun Q : bM => Pst c n s p g v C R i k T 0 (stA v) (fun i' _ => ¬ Wd c i' 18 ∧ ¬ Wd c i' 19) (TOP v j C) (1, Q)) (fun x : Int × bM => Pst c n s p g v C R i k T 0 (stA v) (fun i' _ => ¬ Wd c i' 18 ∧ ¬ Wd c i' 19) (TOP v j C) x)) (I := fun Q : bM => Fp p R Q ∧ Dn c n s p g v C R i k T 0 (stA v) (fun i' _ => ¬ Wd c i' 19) (TOP v j C) Q) (fun Q => (1001 - Q 11 5).toNat) ?_ Q ⟨z2, z5⟩)))
  · rcases r with r | r
    · unfold F_X12_readCond_L5_b48
      exact b_Ws z
    · exact b_Ws z
  clear z1 z2 z3 z5
  intro Q ⟨fp, D, m, j1, i1, k1, T1, o1, r1, r2, r3, r4, r5, r6, r7, r8, r9, r10, r11, r12, r13, r14, r15, r16⟩
  obtain ⟨st1, st2, st3, st4, st5⟩ := stA_f (v := v) r6.1 r6.2
  have rt : Rt c Q i1 := r9.2.1
  have qn := qT_n (i := i1) hB
  have i1b : (i1 : Int) ≤ qT c i1 := r9.2.2.1
  obtain ⟨⟨ctG, _, _, rD11⟩, rb⟩ := Rl_b.mp r9
  have g9 : stA v D 4 9 = s + x_q Q p k1 + 0 := rb.2.2.2.2.1
  have d0 := gd.2.2.1.1
  have gs : s ≤ D 4 9 := by
    by_cases z : o1 = 0
    · have := rb.2.2.2.2.2.2.2; omega
    · have dpos : 1 ≤ x_q Q p k1 := by
        have ks := rb.2.2.2.1.2.2.2
        by_cases kz : k1 = 0
        · exfalso
          subst kz
          have d0 : x_dep Q p 0 = 0 := rfl
          omega
        · have := Spt_qm ks k1 0 (by omega)
          rw [show 0 + k1 = k1 by omega, show x_q Q p 0 = 0 from rfl] at this
          omega
      omega
  have hb : 0 ≤ D 4 9 ∧ (i_and (D 109 v) 4 = 0 ∨ D 4 9 < 1000) := by
    refine ⟨by omega, ?_⟩
    by_cases z : o1 = 0
    · exact Or.inl (st5.mpr z)
    · right; omega
  have out : ¬ Wd c i1 18 → Pst c n s p g v C R i k T 0 (stA v) (fun i' _ => ¬ Wd c i' 18 ∧ ¬ Wd c i' 19) (TOP v j C) (1, Q) := fun w => ⟨b_fr_mo (by decide) r16, fp, Or.inr ⟨rfl, D, m, j1, i1, k1, T1, o1, r1, r2, r3, r4, r5, r6, r7, r8, r9, r10, r11, r12, r13, r14, ⟨w, r15⟩, r16⟩⟩
  unfold rC_s
  refine b_Wi (fun y1 => b_Wi (fun y2 => ?_) (fun y2 => b_Ws (out (fun w => y2 ((kR_is rt 18 (by decide)).mpr w).2)))) (fun y1 => b_Ws (out (fun w => y1 ((kR_is rt 18 (by decide)).mpr w).1)))
  have w : Wd c i1 18 := (kR_is rt 18 (by decide)).mp ⟨y1, y2⟩
  have lw := qT_w hB w.1 w.2 (by decide)
  rw [kL_18.1] at lw
  have qn2 := qT_n (i := i1 + 1) hB
  refine b_Wb (b_wp_m (fun P z => ?_) (t_scanT hB rt))
  obtain ⟨u1, u2⟩ := z
  have sk := b_kp1 st1 (show b_dis [(4, some 9), (108, none)] [(109, none), (4, some 11)] = true by decide)
  generalize hC2 : b_up (stA v D) 109 v (i_or (stA v D 109 v) 4) = C2
  have f2 : b_fr [(109, none)] (stA v D) C2 := by subst hC2; exact b_frA b_fr_refl (by decide)
  have c2v : C2 109 v = 4 * 1 := by
    subst hC2
    rw [b_ups, sk 109 v rfl, r6.1, (i_8 (by omega)).2.2.2.2.2]
    omega
  have c2u : ∀ u, u ≠ v → C2 109 u = D 109 u := fun u hu => by subst hC2; rw [b_upi hu]; exact sk 109 u rfl
  obtain ⟨L, hL, l1, l2⟩ := b_wp_ex (t_stepT hB (Ct_k f2 (by decide) ctG) (by omega))
  have eA := r1.trans (AFT_or r8 w hv (by omega) hb (by rw [hC2]; exact hL))
  clear hC2
  have lk := b_kp1 l1 (show b_dis W_st [(109, none), (4, none), (108, none)] = true by decide)
  have fk := b_kp1 f2 (show b_dis [(109, none)] [(4, none), (108, none)] = true by decide)
  obtain ⟨rb1, rb2, rb3⟩ := Rb_k (dd := L 108) rb (fun x _ => by rw [lk 108 x rfl, fk 108 x rfl]) u1 (by decide)
  have e9 : L 4 9 = stA v D 4 9 := by rw [lk 4 9 rfl, fk 4 9 rfl]
  have pre : Pre c n s p (g + 1) v L P (i1 + 1) k1 T1 (j1 + 1) (4 * 1) := by
    refine ⟨Rl_b.mpr ⟨⟨l2, u2, by omega, ?_⟩, ?_⟩, ?_, ?_, by omega, by omega, by omega⟩
    · rw [lk 4 11 rfl, fk 4 11 rfl]; exact rD11
    · rw [e9]; exact rb1
    · rw [u1 11 49 (by decide)]; exact r10
    · rw [lk 109 _ rfl]; exact c2v
  refine b_Wb (b_wp_m (fun x z => ?_) (h1 (g + 1) 1 L P (i1 + 1) k1 T1 (j1 + 1) (by omega) (Or.inr rfl) pre))
  obtain ⟨x7, S⟩ := x
  obtain ⟨z1, z2, z3⟩ := z
  dsimp only at z1 z2 z3
  refine b_Wtwo ?_
  dsimp only
  have frC : b_fr W_cC C L := b_fr_tr r4 (b_fr_tr (b_fr_mo (by decide) st1) (b_fr_tr (b_fr_mo (by decide) f2) (b_fr_mo (by decide) l1)))
  have frP : b_fr W_cR R P := b_fr_tr r16 (b_fr_mo (by decide) u1)
  have fpS : Fp p R S := Fp_t fp (Fp_t (Fp_w u1 (by decide)) z2)
  rcases z3 with ⟨z3, G, w4, w5, w6⟩ | ⟨z3, G, m3, j3, i3, k3, T3, o3, t1, t2, t3, t4, t5, t6, t7, t8, t9, t10, t11, t12, t13, t14, t15, t16⟩
  · exact b_Wt z3 (b_Ws ⟨b_fr_tr (b_fr_mo (by decide) frP) (b_fr_mo (by decide) z1), fpS, Or.inl ⟨rfl, G, eA.trans w4, b_fr_tr (b_fr_mo (by decide) frC) (b_fr_mo (by decide) w5), w6⟩⟩)
  obtain ⟨t15, e15⟩ := t15
  subst e15
  obtain ⟨⟨_, rtS, i3b, rG11⟩, rbG⟩ := Rl_b.mp t9
  obtain ⟨sg1, sg2, sg3, sg4, sg5⟩ := stA_f (v := v) t6.1 t6.2
  have gd3 := rbG.2.2.2.1
  have kT8 := gd.2.1
  have mul1 : (8 - v) * (T3 - T) = (8 - v) * (T3 - T1) + (8 - v) * (T1 - T) := by
    rw [← Int.mul_add, show T3 - T1 + (T1 - T) = T3 - T by omega]
  have mul2 : (8 - v) * (T3 - T) ≤ 8 * (T3 - T) := Int.mul_le_mul_of_nonneg_right (by omega) (by omega)
  have T12 := gd3.1
  have e9G : G 4 9 = s + x_q S p k3 + 0 := rbG.2.2.2.2.1
  have t13' : G 4 9 + (g + 1) ≤ qT c i3 := t13
  obtain ⟨g1, g2, g3⟩ := Rb_op (dd := stA v G 108) (f9 := stA v G 4 9) (lh := 0) (y := -2) rbG (fun x hx => sg3 x (by omega)) (Or.inr (Or.inr rfl)) (by rw [if_neg (by decide), t11, rb3, r11]; omega) (by rw [show s + x_q S p k3 = G 4 9 by omega, sg4 rfl]; rfl) (by omega) (Or.inl rfl) (by omega)
  rw [if_neg (by decide)] at g3
  have q3n := qT_n (i := i3) hB
  refine b_Wf (by omega) (b_We (e_addStep rbG.1 hp2 rbG.2.2.1 ⟨by omega, by omega⟩) (b_Ws ⟨⟨Fp_t fpS (Fp_a (by omega)), G, m3, j3, i3, k3 + 1, T3, 1, eA.trans t1, t2, t3, b_fr_tr frC t4, fun u hu => ?_, t6, fun x hx => ?_, t8, Rl_b.mpr ⟨⟨Ct_k sg1 (by decide) t8, Rt_k aS_fr (by decide) rtS, i3b, ?_⟩, g1⟩, ?_, ?_, ⟨by omega, by omega⟩, by omega, by omega, t15, b_fr_tr frP (b_fr_tr t16 (b_fr_mo (by decide) aS_fr))⟩, ?_⟩))
  · rw [t5 u hu, lk 109 u rfl, c2u u (by omega)]; exact r5 u hu
  · rw [t7 x hx, lk 108 x rfl, fk 108 x rfl, st3 x (by omega)]; exact r7 x hx
  · rw [sg1 4 11 (by decide)]; exact rG11
  · rw [(aS_fr (R := S)) 11 49 (by decide)]; exact t10
  · rw [g3, t11, rb3, r11]; omega
  · show (1001 - aS S p k3 (-2) 11 5).toNat < (1001 - Q 11 5).toNat
    rw [(aS_fr (R := S)) 11 5 (by decide), show S 11 5 = qT c i3 from rtS.2.1, show Q 11 5 = qT c i1 from rt.2.1]
    omega
