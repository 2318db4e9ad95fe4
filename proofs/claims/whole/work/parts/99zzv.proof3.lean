theorem t_proof {c : Int → Int} {n : Int} {C R : bM} {cc i N : Nat} (hB : z_B c n) (h : Cl c n C R cc i N) (w : Wd c i 0) : b_wp (F_X12_readProof R) (Pf c n C R cc i N (F_X1_readProof C)) := by
  have h0 := h
  obtain ⟨⟨a1, a2, a3⟩, ⟨b1, b2, b3⟩, ⟨c1, c2, c3⟩, ⟨d1, d2, d3, d4⟩, e1, f1⟩ := h
  have nn := hB.1
  have tn : (C 4 8).toNat = cc := by rw [b1]; omega
  have q0 := qT_n (i := i) hB
  have q1 := qT_n (i := i + 1) hB
  have q2 := qT_n (i := i + 1 + 1) hB
  have q3 := qT_n (i := i + 1 + 1 + 1) hB
  have l0 := (qT_s (i := i) hB).2 (by rw [w.1]; decide)
  have s3 : C 1 3 = qT c i := a1.2.1.2.2.1
  have r5 : R 11 5 = qT c i := a2.2.1
  unfold F_X12_readProof
  refine b_Wi (fun y0 => b_We e_wrongR (b_Wtwo (b_Wg (Or.inl rfl) (b_Ws ?_)))) (fun y0 => ?_)
  · refine ⟨Frr_x (W := [(11, some 8), (11, some 9)]) (b_frF (b_frF b_fr_refl (by decide)) (by decide)) (by decide) (by decide), Or.inl ⟨rfl, b_up (b_up C 1 5 4) 1 6 (C 1 3), ?_, Fc_w (W := [(1, some 5), (1, some 6)]) (b_frF (b_frF b_fr_refl (by decide)) (by decide)) (by decide), ?_, ?_⟩⟩
    · refine b_eqn ?_
      unfold F_X1_readProof
      rw [tn, c1]
      exact b_Wg ⟨b2, b3⟩ (b_Wf (by omega) (b_We e_wrong (b_Wtwo (b_Wg (Or.inl rfl) (b_Ws rfl)))))
    · exact (wr_f (M := C) (k := 4)).1.trans (wrR_f (M := R) (k := 4)).1.symm
    · refine (wr_f (M := C) (k := 4)).2.trans (Eq.trans ?_ (wrR_f (M := R) (k := 4)).2.symm)
      rw [s3, r5]
  have hN : N < 24 := by omega
  generalize hp : (192 : Int) + R 183 98 = p
  have ep : p = 192 + (N : Int) := by omega
  refine b_Wg (by omega) (b_Wl ?_)
  generalize hR1 : b_up R 11 48 p = R1
  have fR1 : b_fr [(11, some 48)] R R1 := by subst hR1; exact b_frF b_fr_refl (by decide)
  have p1 : R1 11 48 = p := by subst hR1; exact b_ups
  clear hR1
  refine b_Wb (b_wp_m (fun R2 z => ?_) (t_scanT hB (Rt_k fR1 (by decide) a2)))
  obtain ⟨z1, z2⟩ := z
  have fR2 : b_fr (W_sc ++ [(11, some 48)]) R R2 := b_fr_tr (b_fr_mo (by decide) fR1) (b_fr_mo (by decide) z1)
  have p2 : R2 11 48 = p := by rw [z1 11 48 (by decide)]; exact p1
  obtain ⟨C1, hC1, k1, k2⟩ := b_wp_ex (t_stepT hB a1 (by omega))
  have kr := Kr_of z2
  have so2 := so_cases z2
  have krr := Kr_r kr
  obtain ⟨x4, ex4, pw⟩ := b_wp_ex (t_place105 k2.2.1 k2.2.2)
  have pk := Pw_Kr pw kr (by decide)
  have c13 : C1 1 3 = qT c (i + 1) := k2.2.1.2.2.1
  have r25 : R2 11 5 = qT c (i + 1) := z2.2.1
  have f1x : Frr (192 + (N : Int)) R R2 := Frr_x fR2 (by decide) (by decide)
  have bad : x4 = -1 → b_wp (F_X12_readProof_b59 R2) (Pf c n C R cc i N (F_X1_readProof C)) := by
    intro ex
    unfold F_X12_readProof_b59
    refine b_We e_wrongR (b_Wtwo (b_Wg (Or.inl rfl) (b_Ws ?_)))
    refine ⟨Frr_t f1x (Frr_x (W := [(11, some 8), (11, some 9)]) (b_frF (b_frF b_fr_refl (by decide)) (by decide)) (by decide) (by decide)), Or.inl ⟨rfl, b_up (b_up C1 1 5 1) 1 6 (C1 1 3), ?_, Fc_t (Fc_w k1 (by decide)) (Fc_w (W := [(1, some 5), (1, some 6)]) (b_frF (b_frF b_fr_refl (by decide)) (by decide)) (by decide)), ?_, ?_⟩⟩
    · refine b_eqn ?_
      unfold F_X1_readProof
      rw [tn, c1]
      exact b_Wg ⟨b2, b3⟩ (b_Wt (by omega) (b_We hC1 (b_We ex4 (b_Wt ex (b_We e_wrong (b_Wtwo (b_Wg (Or.inl rfl) (b_Ws rfl))))))))
    · exact (wr_f (M := C1) (k := 1)).1.trans (wrR_f (M := R2) (k := 1)).1.symm
    · refine (wr_f (M := C1) (k := 1)).2.trans (Eq.trans ?_ (wrR_f (M := R2) (k := 1)).2.symm)
      rw [c13, r25]
  refine b_Wi (fun y1 => b_We e_X12_in (b_Wi (fun y2 => bad ?_) (fun y2 => ?_))) (fun y1 => bad ?_)
  · have := b_01_0.mp y2
    omega
  · have y3 := b_01_n y2
    have ey : R2 11 4 = x4 + 11 := by omega
    have x0 : 0 ≤ x4 ∧ x4 < 7 := by omega
    rw [p2]
    have ey2 : R2 11 4 - 11 = x4 := by omega
    rw [ey2]
    refine b_Wg ⟨by omega, by omega⟩ (b_Wl ?_)
    generalize hR3 : b_up R2 184 p x4 = R3
    have fR3 : b_fr [(184, none)] R2 R3 := by subst hR3; exact b_frA b_fr_refl (by decide)
    have r3a : ∀ j, R3 184 j = if j = p then x4 else R2 184 j := fun j => by subst hR3; exact b_upJ
    clear hR3
    have f3x : Frr (192 + (N : Int)) R2 R3 := ⟨Fp_w fR3 (by decide), fun j hj => ⟨by rw [r3a, if_neg (by omega)], fR3 185 j (by simp [b_ins])⟩, fun j _ => fR3 183 j (by simp [b_ins]), b_fr_mo (by decide) fR3⟩
    refine b_Wb (b_wp_m (fun R4 z => ?_) (t_scanT hB (Rt_k fR3 (by decide) z2)))
    obtain ⟨z3, z4⟩ := z
    have kw1 : kT c (i + 1) = 1 := so2.2.2.2.2.2.1.mp y1
    have l1 := (qT_s (i := i + 1) hB).2 (by rw [kw1]; decide)
    obtain ⟨C2, hC2, k3, k4⟩ := b_wp_ex (t_stepT hB k2 (by omega))
    refine b_Wb (b_wp_m (fun x z => ?_) (t_number (lo := 0) (hi := 99) hB k4 z4))
    obtain ⟨x15, R5⟩ := x
    obtain ⟨z5, z6⟩ := z
    dsimp only at z5 z6
    refine b_Wtwo ?_
    dsimp only
    have f4x : Frr (192 + (N : Int)) R R4 := Frr_t f1x (Frr_t f3x (Frr_x z3 (by decide) (by decide)))
    have f5x : Frr (192 + (N : Int)) R R5 := Frr_t f4x (Frr_x z5 (by decide) (by decide))
    have fC2 : b_fr W_st C C2 := b_fr_tr k1 k3
    rcases z6 with ⟨z6, D, z7, z8, z9⟩ | ⟨z6, z7, z8, z9, z10, z11, z12, z13, z14⟩
    · refine b_Wt z6 (b_Ws ⟨f5x, Or.inl ⟨rfl, D, ?_, Fc_t (Fc_w fC2 (by decide)) (Fc_w z8 (by decide)), z9⟩⟩)
      refine b_eqn ?_
      unfold F_X1_readProof
      rw [tn, c1]
      exact b_Wg ⟨b2, b3⟩ (b_Wt (by omega) (b_We hC1 (b_We ex4 (b_Wf (by omega) (b_We hC2 (b_We z7 (b_Wtwo (b_Wt rfl (b_Ws rfl)))))))))
    · refine b_Wf (by omega) ?_
      generalize hv : vT c (i + 1 + 1) = v at z9 z10 z11 z12
      obtain ⟨C3, hC3, k5, k6⟩ := b_wp_ex (t_stepT hB k4 (by omega))
      have l2 := (qT_s (i := i + 1 + 1) hB).2 (by rw [z14]; decide)
      have fC3 : b_fr W_st C C3 := b_fr_tr fC2 k5
      have p5 : R5 11 48 = p := by rw [z7 11 48 (by decide), z3 11 48 (by decide), fR3 11 48 (by decide)]; exact p2
      rw [p5, z12]
      refine b_Wg (by omega) (b_Wl ?_)
      rw [b_upc (show (11 : Nat) ≠ 185 by decide), p5]
      refine b_Wg (by omega) (b_Wl ?_)
      rw [b_upc (show (11 : Nat) ≠ 186 by decide), b_upc (show (11 : Nat) ≠ 185 by decide), p5]
      refine b_Wg (by omega) (b_Wl ?_)
      generalize hR8 : b_up (b_up (b_up R5 185 p v) 186 p 0) 187 p 0 = R8
      have fR8 : b_fr [(185, none), (186, none), (187, none)] R5 R8 := by subst hR8; exact b_frA (b_frA (b_frA b_fr_refl (by decide)) (by decide)) (by decide)
      have r85 : ∀ j, R8 185 j = if j = p then v else R5 185 j := fun j => by subst hR8; rw [b_upc (by decide), b_upc (by decide), b_upJ]
      have r86 : ∀ j, R8 186 j = if j = p then 0 else R5 186 j := fun j => by subst hR8; rw [b_upc (by decide), b_upJ, b_upc (by decide)]
      have r87 : ∀ j, R8 187 j = if j = p then 0 else R5 187 j := fun j => by subst hR8; rw [b_upJ, b_upc (by decide), b_upc (by decide)]
      clear hR8
      have k8 := b_kp1 fR8 (show b_dis [(185, none), (186, none), (187, none)] [(11, none), (183, none), (184, none), (188, none), (189, none), (190, none), (191, none), (192, none), (193, none)] = true by decide)
      have f8x : Frr (192 + (N : Int)) R R8 := Frr_t f5x ⟨⟨fun j hj => ⟨by rw [r86, if_neg (by omega)], by rw [r87, if_neg (by omega)]⟩, fun j _ => k8 188 j rfl, fun j _ => ⟨k8 189 j rfl, k8 190 j rfl, k8 191 j rfl⟩, fun j _ => ⟨k8 192 j rfl, k8 193 j rfl⟩, fun z j => by rw [k8 193 j rfl]; exact z j⟩, fun j hj => ⟨k8 184 j rfl, by rw [r85, if_neg (by omega)]⟩, fun j _ => k8 183 j rfl, b_fr_mo (by decide) fR8⟩
      have rt8 := Rt_k fR8 (by decide) z13
      have n38 : N3 R8 := f8x.1.2.2.2.2 e1
      have e184 : R8 184 (192 + (N : Int)) = x4 := by
        rw [k8 184 _ rfl, z7 184 _ (by simp [b_ins, W_nR, W_sc]), z3 184 _ (by simp [b_ins, W_sc]), r3a, if_pos ep.symm]
      have e185 : R8 185 (192 + (N : Int)) = v := by rw [r85, if_pos ep.symm]
      have e183 : R8 183 98 = N := by
        rw [k8 183 _ rfl, z7 183 _ (by simp [b_ins, W_nR, W_sc]), z3 183 _ (by simp [b_ins, W_sc]), fR3 183 _ (by simp [b_ins]), z1 183 _ (by simp [b_ins, W_sc]), fR1 183 _ (by simp [b_ins])]
        exact c2
      have c8 : ∀ x, C3 108 x = C 108 x := fun x => fC3 108 x (by simp [b_ins, W_st])
      have c9 : C3 4 9 = C 4 9 := fC3 4 9 (by decide)
      have nf3 : Nfl C R C3 R8 := ⟨⟨fC3 1 5 (by decide), fC3 1 6 (by decide)⟩, by rw [k8 11 8 rfl, z7 11 8 (by decide), z3 11 8 (by decide), fR3 11 8 (by decide), z1 11 8 (by decide), fR1 11 8 (by decide)], by rw [k8 11 9 rfl, z7 11 9 (by decide), z3 11 9 (by decide), fR3 11 9 (by decide), z1 11 9 (by decide), fR1 11 9 (by decide)]⟩
      -- no condition
      have flat : ¬ Wd c (i + 1 + 1 + 1) 24 → b_wp (F_X12_readProof_b165 R8) (Pf c n C R cc i N (F_X1_readProof C)) := by
        intro nw
        have er : F_X1_readProof C = F_X1_readProof_b118 x4 v C3 := by
          unfold F_X1_readProof
          have cl24 : C cc 1 < 24 := by omega
          unfold b_g
          rw [tn, if_pos ⟨b2, b3⟩, if_pos cl24, hC1, b_bind_s, ex4, b_bind_s, if_neg (by omega), hC2, b_bind_s, z8, b_b2, if_neg (show ¬ (1 : Int) = 0 by decide), z9, b_bind_s, hC3, b_bind_s, e_isWord, b_bind_s, if_pos (show b_01 (C3 1 2 = 1 ∧ C3 1 4 = C3 106 6) = 0 from b_01_0.mpr (fun z => nw ((w_is (j := 6) k6 (by decide)).mp z)))]
        rw [er]
        refine t_pfin h0 hN f8x e183 (Fc_w fC3 (by decide)) (fun z j z1 z2 => fC3 z j ?_) k6 rt8 (by omega) (fun x _ => c8 x) (by omega) (fC3 4 10 (by decide)) (by omega) ⟨e184, e185⟩ (by omega) ?_ nf3
        · simp [b_ins, W_st]; omega
        · have e7 : R8 187 (192 + (N : Int)) = 0 := by rw [r87, if_pos ep.symm]
          refine ⟨⟨?_, fun j hj => ?_⟩, ?_, ?_, fun j hj => ?_, fun z => ?_⟩
          · rw [e7, c9]; show C 4 9 = C 4 9 + 0; omega
          · rw [e7] at hj; omega
          · rw [e7]; omega
          · rw [e185]; omega
          · rw [e7] at hj; omega
          · rw [e7] at z; omega
      refine b_Wi (fun y5 => b_Wi (fun y6 => ?_) (fun y6 => flat (fun z => y6 ((kR_is rt8 24 (by decide)).mpr z).2))) (fun y5 => flat (fun z => y5 ((kR_is rt8 24 (by decide)).mpr z).1))
      have ww : Wd c (i + 1 + 1 + 1) 24 := (kR_is rt8 24 (by decide)).mp ⟨y5, y6⟩
      have l3 := (qT_s (i := i + 1 + 1 + 1) hB).2 (by rw [ww.1]; decide)
      refine b_Wb (b_wp_m (fun R9 z => b_Wl ?_) (t_scanT hB rt8))
      obtain ⟨z15, z16⟩ := z
      generalize hRA : b_up R9 11 49 0 = RA
      have fRA : b_fr [(11, some 49)] R9 RA := by subst hRA; exact b_frF b_fr_refl (by decide)
      have rA49 : RA 11 49 = 0 := by subst hRA; exact b_ups
      clear hRA
      have fA : b_fr (W_sc ++ [(11, some 49)]) R8 RA := b_fr_tr (b_fr_mo (by decide) z15) (b_fr_mo (by decide) fRA)
      obtain ⟨C4, hC4, k9, k10⟩ := b_wp_ex (t_stepT hB k6 (by omega))
      have fC4 : b_fr W_st C C4 := b_fr_tr fC3 k9
      have rA48 : RA 11 48 = p := by rw [fA 11 48 (by decide), k8 11 48 rfl]; exact p5
      have fAx : Frr (192 + (N : Int)) R RA := Frr_t f8x (Frr_x fA (by decide) (by decide))
      refine b_Wb (b_wp_m (fun x z => ?_) (t_readCond (p := p) (s := C 4 9) hB (by omega) k10 (Rt_k fRA (by decide) z16) (by omega) rA48 (by rw [fA 186 p (by simp [b_ins, W_sc]), r86, if_pos rfl]) (by rw [fA 187 p (by simp [b_ins, W_sc]), r87, if_pos rfl]) rA49 (fAx.1.2.2.2.2 e1) (fC4 4 9 (by decide)) d3 (by omega)))
      obtain ⟨x30, RB⟩ := x
      obtain ⟨z17, z18, z19⟩ := z
      dsimp only at z17 z18 z19
      refine b_Wtwo ?_
      dsimp only
      rw [ep] at z18
      have fBx : Frr (192 + (N : Int)) R RB := Frr_t fAx (Frr_w z17 z18 (by decide) (by decide))
      have er : ∀ r D, F_X1_readCond C4 = some (r, D) → F_X1_readProof C = if r = 0 then some (0, D) else F_X1_readProof_b118 x4 v D := by
        intro r D hr
        unfold F_X1_readProof
        have cl24 : C cc 1 < 24 := by omega
        unfold b_g
        rw [tn, if_pos ⟨b2, b3⟩, if_pos cl24, hC1, b_bind_s, ex4, b_bind_s, if_neg (by omega), hC2, b_bind_s, z8, b_b2, if_neg (show ¬ (1 : Int) = 0 by decide), z9, b_bind_s, hC3, b_bind_s, e_isWord, b_bind_s, if_neg (show ¬ b_01 (C3 1 2 = 1 ∧ C3 1 4 = C3 106 6) = 0 from fun z => b_01_0.mp z ((w_is (j := 6) k6 (by decide)).mpr ww)), hC4, b_bind_s, hr, b_b2]
      rcases z19 with ⟨z19, D, z20, z21, z22⟩ | ⟨z19, z20, D, i9, k', T', z21, z22, z23, z24, z25, z26, z27⟩
      · exact b_Wt z19 (b_Ws ⟨fBx, Or.inl ⟨rfl, D, by rw [er 0 D z20, if_pos rfl], Fc_t (Fc_w fC4 (by decide)) (Fc_w z21 (by decide)), z22⟩⟩)
      · refine b_Wf (by omega) ?_
        rw [er 1 D z21, if_neg (by decide)]
        have rtB : Rt c RB i9 := z24.2.1
        have e9 : D 4 9 = C 4 9 + x_q RB p k' + 0 := z24.2.2.2.2.2.2.2.2.1
        have xq0 : 0 ≤ x_q RB p k' := z24.2.2.2.2.2.2.2.2.2.2.2
        have eB184 : RB 184 (192 + (N : Int)) = x4 := by rw [z20 184 _ (by simp [b_ins, W_cR, W_tR]), fA 184 _ (by simp [b_ins, W_sc])]; exact e184
        have eB185 : RB 185 (192 + (N : Int)) = v := by rw [z20 185 _ (by simp [b_ins, W_cR, W_tR]), fA 185 _ (by simp [b_ins, W_sc])]; exact e185
        have eB183 : RB 183 98 = N := by rw [z20 183 _ (by simp [b_ins, W_cR, W_tR]), fA 183 _ (by simp [b_ins, W_sc])]; exact e183
        refine t_pfin h0 hN fBx eB183 (Fc_t (Fc_w fC4 (by decide)) (Fc_w z22 (by decide))) (fun z j z1 z2 => ?_) z24.1 rtB z24.2.2.1 (fun x hx => ?_) (by omega) ?_ (by omega) ⟨eB184, eB185⟩ (by omega) ?_ (Nfl_t nf3 ⟨⟨by rw [z22 1 5 (by decide), k9 1 5 (by decide)], by rw [z22 1 6 (by decide), k9 1 6 (by decide)]⟩, by rw [z20 11 8 (by decide), fA 11 8 (by decide)], by rw [z20 11 9 (by decide), fA 11 9 (by decide)]⟩)
        · rw [z22 z j (by simp [b_ins, W_cC, W_tC, W_sumC]; omega), fC4 z j (by simp [b_ins, W_st]; omega)]
        · rw [z23 x hx, fC4 108 x (by simp [b_ins, W_st])]
        · rw [z22 4 10 (by decide), fC4 4 10 (by decide)]
        · have rp := Rl_P z24 (by rw [ep, eB185]; omega) (fun _ => by rw [z25]; decide)
          rw [ep] at rp
          exact rp
  · have nk : ¬ (kT c (i + 1) = 1) := fun z => y1 (so2.2.2.2.2.2.1.mpr z)
    rcases pw with q | ⟨j, j1, j2, j3, j4⟩
    · exact q.1
    · exact absurd j3 nk
