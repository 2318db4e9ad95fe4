theorem i_bt_01 {s k : Int} (hk : 0 ≤ k ∧ k < 32) : (i_and (i_shr s k) 1 = 0 ↔ i_bt s k.toNat = false) ∧ (i_and (i_shr s k) 1 = 1 ↔ i_bt s k.toNat = true) := by
  rw [i_bt_shr hk]
  cases i_bt s k.toNat <;> simp
theorem q4_u {v w : Nat} (hv : v < 11) (hw : w < 11) (h : q4 v = q4 w) : v = w := by
  unfold q4 at h
  by_cases a : v = 10
  · by_cases b : w = 10
    · omega
    · rw [if_pos a, if_neg b] at h; omega
  · by_cases b : w = 10
    · rw [if_neg a, if_pos b] at h; omega
    · rw [if_neg a, if_neg b] at h; omega
theorem t_clause {c : Int → Int} {n : Int} {C R : bM} {cc i N : Nat} {Z : Int} (hB : z_B c n) (h : Cx c n C R cc i N Z) (k0 : kT c i ≠ 0) : b_wp (F_X12_readClause R) (Pcl c n C R cc i Z (F_X1_read_s40 Z C)) := by
  have h0 := h
  obtain ⟨cl, ru, bi, z1, z2, z3⟩ := h
  have cl0 := cl
  obtain ⟨⟨a1, a2, a3⟩, ⟨b1, b2, b3⟩, ⟨c1, c2, c3⟩, ⟨d1, d2, d3, d4⟩, e1, f1⟩ := cl
  have nn := hB.1
  have tn : (C 4 8).toNat = cc := by rw [b1]; omega
  have q0 := qT_n (i := i) hB
  have q1 := qT_n (i := i + 1) hB
  have l0 := (qT_s (i := i) hB).2 k0
  have s2 : C 1 2 = kT c i := a1.2.1.2.1
  have s3 : C 1 3 = qT c i := a1.2.1.2.2.1
  have r5 : R 11 5 = qT c i := a2.2.1
  have so := so_cases a2
  have kr := Kr_of a2
  have krr := Kr_r kr
  obtain ⟨x, ex, pq⟩ := b_wp_ex (t_place104 a1.2.1 a1.2.2)
  have nz : ¬ C 1 2 = 0 := fun z => k0 (s2.symm.trans z)
  have keyv : ∀ v : Nat, v < 11 → x = v → R 11 3 = 1 ∧ R 11 4 = (q4 v : Nat) := by
    intro v hv e
    rcases pq with ⟨p1, _⟩ | ⟨w, w1, w2, w3⟩
    · omega
    · have : v = w := by omega
      subst this
      exact (kR_is a2 (q4 v) (by unfold q4; split <;> omega)).mpr w3
  have other : (¬ R 11 3 = 1 ∨ ¬ (0 ≤ R 11 4 ∧ R 11 4 ≤ 10)) → x = -1 := by
    intro e
    rcases pq with ⟨p1, _⟩ | ⟨w, w1, w2, w3⟩
    · exact p1
    · have := (kR_is a2 (q4 w) (by unfold q4; split <;> omega)).mpr w3
      have l : q4 w ≤ 10 := by unfold q4; split <;> omega
      omega
  have key : R 11 3 = 1 → (0 ≤ R 11 4 ∧ R 11 4 ≤ 10) → ∃ v : Nat, v < 11 ∧ x = v ∧ R 11 4 = (q4 v : Nat) ∧ Wd c i (q4 v) := by
    intro e1 e2
    have wd := (kR_is a2 (R 11 4).toNat (by omega)).mp ⟨e1, by omega⟩
    rcases pq with ⟨p1, p2⟩ | ⟨w, w1, w2, w3⟩
    · exfalso
      by_cases z : R 11 4 = 0
      · refine p2 10 (by decide) ?_
        have : (R 11 4).toNat = q4 10 := by rw [z]; rfl
        rw [← this]; exact wd
      · refine p2 ((R 11 4).toNat - 1) (by omega) ?_
        have : (R 11 4).toNat = q4 ((R 11 4).toNat - 1) := by unfold q4; rw [if_neg (by omega)]; omega
        rw [← this]; exact wd
    · exact ⟨w, w1, w2, ((kR_is a2 (q4 w) (by unfold q4; split <;> omega)).mpr w3).2, w3⟩
  have zz : ¬ 1000 ≤ Z := by omega
  have bad : ∀ fk : Int, F_X1_read_s40 Z C = some (.inr (.inr (-1, b_up (b_up C 1 5 fk) 1 6 (C 1 3)))) → b_wp (b_bind (F_X12_wrong fk R) (fun t => b_two t (fun x2 M3 => b_g (x2 = 0 ∨ x2 = 1) (some (x2, M3))))) (Pcl c n C R cc i Z (F_X1_read_s40 Z C)) := by
    intro fk e
    refine b_We e_wrongR (b_Wtwo (b_Wg (Or.inl rfl) (b_Ws ⟨Fa_w (W := [(11, some 8), (11, some 9)]) (b_frF (b_frF b_fr_refl (by decide)) (by decide)) (by decide) (by decide), Or.inl ⟨rfl, _, e, Fc_w (W := [(1, some 5), (1, some 6)]) (b_frF (b_frF b_fr_refl (by decide)) (by decide)) (by decide), ?_, ?_⟩⟩)))
    · exact (wr_f (M := C) (k := fk)).1.trans (wrR_f (M := R) (k := fk)).1.symm
    · refine (wr_f (M := C) (k := fk)).2.trans (Eq.trans ?_ (wrR_f (M := R) (k := fk)).2.symm)
      rw [s3, r5]
  have b21 : x = -1 → b_wp (F_X12_readClause_b21 R) (Pcl c n C R cc i Z (F_X1_read_s40 Z C)) := by
    intro e
    unfold F_X12_readClause_b21
    refine bad 1 (b_eqn ?_)
    unfold F_X1_read_s40
    refine b_Wf zz (b_Wf nz (b_We ex (b_Wf (by omega) (b_We (a := (0, b_up (b_up C 1 5 1) 1 6 (C 1 3))) (b_eqn ?_) (b_Wtwo (b_Wt rfl (b_Ws rfl)))))))
    unfold F_X1_readRule
    exact b_Wt e (b_We e_wrong (b_Wtwo (b_Wg (Or.inl rfl) (b_Ws rfl))))
  unfold F_X12_readClause
  refine b_Wi (fun y1 => b_We e_X12_in (b_Wi (fun y2 => b21 (other (Or.inr (b_01_0.mp y2)))) (fun y2 => ?_))) (fun y1 => b21 (other (Or.inl y1)))
  obtain ⟨v, v1, v2, v3, v4⟩ := key y1 (b_01_n y2)
  refine b_Wi (fun y3 => ?_) (fun y3 => ?_)
  · -- a proof
    have v10 : v = 10 := by unfold q4 at v3; by_cases z : v = 10; exact z; rw [if_neg z] at v3; omega
    subst v10
    have x10 : x = 10 := by omega
    refine b_Wb (b_wp_m (fun t z => b_Wtwo ?_) (t_proof hB cl0 v4))
    obtain ⟨w1, w2⟩ := z
    have fa : Fa R t.2 := Fa_p w1 (by omega)
    rcases w2 with ⟨w2, D, w3, w4, w5⟩ | ⟨w2, D, i', w3, w4, w5, w6, w7, w8, w9⟩
    · unfold F_X12_readClause_b144
      refine b_Wt w2 (b_Ws ⟨fa, Or.inl ⟨rfl, D, b_eqn ?_, w4, w5⟩⟩)
      unfold F_X1_read_s40
      exact b_Wf zz (b_Wf nz (b_We ex (b_Wt x10 (b_We w3 (b_Wtwo (b_Wt rfl (b_Ws rfl)))))))
    · rw [w2]
      have es : F_X1_read_s40 Z C = F_X1_read_b94 Z D := by
        unfold F_X1_read_s40
        rw [if_neg zz, if_neg nz, ex, b_bind_s, if_pos x10, w3, b_b2, if_neg (show ¬ (1 : Int) = 0 by decide)]
      rw [es]
      refine t_semi hB fa w4 (N := N + 1) ⟨w5, fun j j0 j1 => ?_, fun b hb => ?_, ?_, by omega, by omega⟩ (by omega) (by omega) w9
      · rw [w8 j, w1.2.2.1 (88 + j) (by omega)]
        exact ru j j0 j1
      · rw [w7, w1.2.2.2 11 51 (by decide)]
        exact bi b hb
      · rw [w1.2.2.2 11 50 (by decide)]
        exact z1
  · have v9 : v < 10 := by
      by_cases z : v = 10
      · subst z; exact absurd v3 y3
      · omega
    have eq4 : q4 v = v + 1 := by unfold q4; rw [if_neg (by omega)]
    rw [eq4] at v3
    have bq := bi v v9
    generalize hk : R 11 4 = k at *
    have kv : k = x + 1 := by omega
    have kn : k.toNat = v + 1 := by omega
    have xn : x.toNat = v := by omega
    have bk := i_bt_01 (s := R 11 51) (k := k) (by omega)
    have bx := i_bt_01 (s := C 4 10) (k := x) (by omega)
    rw [kn] at bk
    rw [xn] at bx
    refine b_Wi (fun y4 => ?_) (fun y4 => ?_)
    · refine bad 3 (b_eqn ?_)
      have t1 : ¬ i_and (i_shr (C 4 10) x) 1 = 0 := by
        rw [bx.1, bq, bk.2.mp y4]; decide
      unfold F_X1_read_s40
      refine b_Wf zz (b_Wf nz (b_We ex (b_Wf (by omega) (b_We (a := (0, b_up (b_up C 1 5 3) 1 6 (C 1 3))) (b_eqn ?_) (b_Wtwo (b_Wt rfl (b_Ws rfl)))))))
      unfold F_X1_readRule
      exact b_Wf (by omega) (b_Wf t1 (b_We e_wrong (b_Wtwo (b_Wg (Or.inl rfl) (b_Ws rfl)))))
    · have t1 : i_and (i_shr (C 4 10) x) 1 = 0 := by
        rw [bx.1, bq]
        cases hb : i_bt (R 11 51) (v + 1) with
        | false => rfl
        | true => exact absurd (bk.2.mpr hb) y4
      refine b_Wl ?_
      generalize hR1 : b_up R 11 51 (i_or (R 11 51) (i_shl 1 k)) = R1
      have fR1 : b_fr [(11, some 51)] R R1 := by subst hR1; exact b_frF b_fr_refl (by decide)
      have r51 : R1 11 51 = i_or (R 11 51) (i_shl 1 k) := by subst hR1; exact b_ups
      clear hR1
      generalize hC1 : b_up C 4 10 (i_or (C 4 10) (i_shl 1 x)) = C1
      have fC1 : b_fr [(4, some 10)] C C1 := by subst hC1; exact b_frF b_fr_refl (by decide)
      have c410 : C1 4 10 = i_or (C 4 10) (i_shl 1 x) := by subst hC1; exact b_ups
      refine b_Wb (b_wp_m (fun R2 z => b_Wl ?_) (t_scanT hB (Rt_k fR1 (by decide) a2)))
      obtain ⟨u1, u2⟩ := z
      generalize hR3 : b_up R2 11 32 1 = R3
      have fR3 : b_fr [(11, some 32)] R2 R3 := by subst hR3; exact b_frF b_fr_refl (by decide)
      have r332 : R3 11 32 = 1 := by subst hR3; exact b_ups
      clear hR3
      have rt3 := Rt_k fR3 (by decide) u2
      obtain ⟨C2, hC2, k1, k2⟩ := b_wp_ex (t_stepT hB (Ct_k fC1 (by decide) a1) (by omega))
      have fR03 : b_fr (W_sc ++ [(11, some 51), (11, some 32)]) R R3 := b_fr_tr (b_fr_mo (by decide) fR1) (b_fr_tr (b_fr_mo (by decide) u1) (b_fr_mo (by decide) fR3))
      have fC02 : b_fr (W_st ++ [(4, some 10)]) C C2 := b_fr_tr (b_fr_mo (by decide) fC1) (b_fr_mo (by decide) k1)
      have c2b : C2 4 10 = i_or (C 4 10) (i_shl 1 x) := by rw [k1 4 10 (by decide)]; exact c410
      have r3b : R3 11 51 = i_or (R 11 51) (i_shl 1 k) := by rw [fR3 11 51 (by decide), u1 11 51 (by decide)]; exact r51
      have bits : ∀ b : Nat, b < 10 → i_bt (C2 4 10) b = i_bt (R3 11 51) (b + 1) := by
        intro b hb
        rw [c2b, r3b, i_bt_or, i_bt_or, bi b hb, i_bt_shl (by omega), i_bt_shl (by omega)]
        congr 1
        by_cases e : b = v
        · rw [decide_eq_true (show (b : Int) = x by omega), decide_eq_true (show ((b + 1 : Nat) : Int) = k by omega)]
        · rw [decide_eq_false (show ¬ (b : Int) = x by omega), decide_eq_false (show ¬ ((b + 1 : Nat) : Int) = k by omega)]
      have tn2 : (C2 4 8).toNat = cc := by rw [fC02 4 8 (by decide)]; exact tn
      have x10 : ¬ x = 10 := by omega
      -- the end, after the value y is told
      have fin : ∀ (y : Int) (Q D : bM) (i' : Nat), Q 11 32 = y → (0 ≤ y ∧ y ≤ 9999) → (x = 6 → y ≤ 99) → b_fr (W_sc ++ [(11, some 51), (11, some 32)]) R Q → Q 11 51 = R3 11 51 → Rt c Q i' → Ct c n D i' → (i' : Int) ≤ qT c i' → qT c i < qT c i' → (∀ (z : Nat) (j : Int), z ≠ 1 → ¬ (z = 4 ∧ j = 10) → z ≠ cc + 10 → D z j = C z j) → (∀ j, D (cc + 10) j = if j = x then y else C (cc + 10) j) → D 4 10 = C2 4 10 → Fc cc C D → F_X1_read_s40 Z C = F_X1_read_b94 Z D → (D 1 5 = C 1 5 ∧ D 1 6 = C 1 6) → b_wp (F_X12_readClause_b124 k 1 Q) (Pcl c n C R cc i Z (F_X1_read_s40 Z C)) := by
        intro y Q D i' q1 q2 q2' q3 q4' q5 q6 q7 q8 q9 q10 q11 q12 q13 q14
        unfold F_X12_readClause_b124
        rw [q1]
        refine b_Wf (by decide) (b_Wg ⟨by omega, by omega, by omega⟩ (b_Wl ?_))
        rw [q13]
        generalize hS : b_up Q 183 (88 + k - 1) y = S
        have fS : b_fr [(183, none)] Q S := by subst hS; exact b_frA b_fr_refl (by decide)
        have s183 : ∀ j, S 183 j = if j = 88 + k - 1 then y else Q 183 j := fun j => by subst hS; exact b_upJ
        clear hS
        have fS2 : b_fr (W_sc ++ [(11, some 51), (11, some 32), (183, none)]) R S := b_fr_tr (b_fr_mo (by decide) q3) (b_fr_mo (by decide) fS)
        have q183 : ∀ j, Q 183 j = R 183 j := fun j => q3 183 j (by simp [b_ins, W_sc])
        have sk := b_kp1 fS2 (show b_dis (W_sc ++ [(11, some 51), (11, some 32), (183, none)]) [(184, none), (185, none), (186, none), (187, none), (188, none), (189, none), (190, none), (191, none), (192, none), (193, none)] = true by decide)
        have fa : Fa R S := ⟨b_fr_mo (by decide) fS2, fun j _ => ⟨⟨sk 184 j rfl, sk 185 j rfl⟩, sk 186 j rfl, sk 187 j rfl⟩, fun j _ => sk 188 j rfl, fun j _ => ⟨sk 189 j rfl, sk 190 j rfl, sk 191 j rfl⟩, fun j _ => ⟨sk 192 j rfl, sk 193 j rfl⟩, fun j hj => by rw [s183, if_neg (by omega)]; exact q183 j, fun z j => by rw [sk 193 j rfl]; exact z j⟩
        refine t_semi hB fa q12 (N := N) ⟨Cl_k cl0 fS2 (by decide) (by rw [s183, if_neg (by omega)]; exact q183 98) q9 q6 (Rt_k fS (by decide) q5) q7 (by omega), fun j j0 j1 => ?_, fun b hb => ?_, ?_, by omega, by omega⟩ (by omega) (by omega) ⟨q14, fS2 11 8 (by decide), fS2 11 9 (by decide)⟩
        · rw [q10, s183]
          by_cases e : j = x
          · rw [if_pos e, if_pos (by omega)]
            exact ⟨rfl, q2, fun z => q2' (by omega)⟩
          · rw [if_neg e, if_neg (by omega), q183]
            exact ru j j0 j1
        · rw [q11, fS 11 51 (by decide), q4']
          exact bits b hb
        · rw [fS2 11 50 (by decide)]
          exact z1
      have slotF : ∀ (D : bM) (y : Int), (∀ (z : Nat) (j : Int), b_ins W_aC z j = false → D z j = C2 z j) → Fc cc C (b_up D (cc + 10) x y) := by
        intro D y hD z j h1 h2
        rw [b_upc (by omega), hD z j h1]
        exact b_fr_mo (by decide) fC02 z j h1
      have c2z : ∀ (z : Nat) (j : Int), z ≠ 1 → ¬ (z = 4 ∧ j = 10) → C2 z j = C z j := by
        intro z j h1 h2
        refine fC02 z j ?_
        simp [b_ins, W_st]
        omega
      refine b_Wi (fun y5 => ?_) (fun y5 => ?_)
      · have x8 : x = 8 := by omega
        unfold F_X12_readClause_b119
        refine fin 1 R3 (b_up C2 (cc + 10) x 1) (i + 1) r332 (by omega) (fun z => by omega) fR03 rfl rt3 (Ct_p (fun z j hz => b_upc (by omega)) k2) (by omega) (by omega) (fun z j h1 h2 h3 => by rw [b_upc h3]; exact c2z z j h1 h2) (fun j => ?_) (b_upc (by omega)) (slotF C2 1 (fun _ _ _ => rfl)) ?_ ⟨by rw [b_upc (by omega)]; exact fC02 1 5 (by decide), by rw [b_upc (by omega)]; exact fC02 1 6 (by decide)⟩
        · rw [b_upJ, c2z (cc + 10) j (by omega) (by omega)]
        · unfold F_X1_read_s40 F_X1_readRule
          rw [if_neg zz, if_neg nz, ex, b_bind_s, if_neg x10, if_neg (show ¬ x = -1 by omega), if_pos t1]
          unfold b_let
          dsimp only
          rw [hC1, hC2, b_bind_s, if_pos x8, tn2]
          unfold b_g
          rw [if_pos ⟨b2, b3⟩, tell_a ⟨b2, b3⟩ (by omega), b_bind_s, b_b2, if_neg (show ¬ (1 : Int) = 0 by decide)]
      · have x8 : ¬ x = 8 := by omega
        obtain ⟨su1, su2⟩ := s_u12 x (by omega) (by omega) x8
        have b107 : ∀ u1 : Int, u1 = s_u1 x → b_wp (F_X12_readClause_b107 k u1 R3) (Pcl c n C R cc i Z (F_X1_read_s40 Z C)) := by
          intro u1 hu
          unfold F_X12_readClause_b107
          rw [show k - 1 = x by omega]
          refine b_Wg (by omega) (b_We e_high ?_)
          rw [← su2, hu]
          have hi9 : s_u2 x ≤ 9999 ∧ (x = 6 → s_u2 x ≤ 99) := by
            rw [su2]
            refine ⟨?_, fun z => ?_⟩
            · split
              · decide
              · split
                · decide
                · split
                  · decide
                  · split
                    · decide
                    · split <;> decide
            · subst z; decide
          refine b_Wb (b_wp_m (fun t z => b_Wtwo ?_) (t_number (lo := s_u1 x) (hi := s_u2 x) hB k2 rt3))
          obtain ⟨w1, w2⟩ := z
          have fQ : b_fr (W_sc ++ [(11, some 51), (11, some 32), (11, some 8), (11, some 9)]) R t.2 := b_fr_tr (b_fr_mo (by decide) fR03) (b_fr_mo (by decide) w1)
          rcases w2 with ⟨w2, D, w3, w4, w5⟩ | ⟨w2, w3, w4, w5, w6, w7, w8, w9, w10⟩
          · refine b_Wt w2 ?_
            unfold F_X12_readClause_b124
            refine b_Wt rfl ?_
            unfold F_X12_readClause_b144
            refine b_Wt rfl (b_Ws ⟨Fa_w fQ (by decide) (by decide), Or.inl ⟨rfl, D, b_eqn ?_, Fc_t (Fc_w fC02 (by decide)) (Fc_w w4 (by decide)), w5⟩⟩)
            unfold F_X1_read_s40
            refine b_Wf zz (b_Wf nz (b_We ex (b_Wf x10 (b_We (a := (0, D)) (b_eqn ?_) (b_Wtwo (b_Wt rfl (b_Ws rfl)))))))
            unfold F_X1_readRule
            refine b_Wf (by omega) (b_Wt t1 (b_Wl ?_))
            rw [hC1]
            exact b_We hC2 (b_Wf x8 (b_Wg (by omega) (b_We w3 (b_Wtwo (b_Wt rfl (b_Ws rfl))))))
          · refine b_Wf (by omega) ?_
            unfold F_X12_readClause_b119
            generalize hy : vT c (i + 1) = y at *
            have l1 := (qT_s (i := i + 1) hB).2 (by rw [w10]; decide)
            have q2n := qT_n (i := i + 1 + 1) hB
            have ct3 : Ct c n (b_up C2 (cc + 10) x y) (i + 1) := Ct_p (fun z j hz => b_upc (by omega)) k2
            obtain ⟨L, hL, m1, m2⟩ := b_wp_ex (t_stepT hB ct3 (by omega))
            have lk : ∀ (z : Nat) (j : Int), z ≠ 1 → L z j = b_up C2 (cc + 10) x y z j := fun z j hz => m1 z j (by simp [b_ins, W_st]; omega)
            refine fin y t.2 L (i + 1 + 1) w8 w7 (fun z => by have := hi9.2 z; omega) (b_fr_tr fR03 (b_fr_mo (by decide) w3)) (w3 11 51 (by decide)) w9 m2 (by omega) (by omega) (fun z j h1 h2 h3 => by rw [lk z j h1, b_upc h3]; exact c2z z j h1 h2) (fun j => ?_) ?_ (Fc_t (slotF C2 y (fun _ _ _ => rfl)) (Fc_w m1 (by decide))) ?_ ⟨by rw [m1 1 5 (by decide), b_upc (by omega)]; exact fC02 1 5 (by decide), by rw [m1 1 6 (by decide), b_upc (by omega)]; exact fC02 1 6 (by decide)⟩
            · rw [lk (cc + 10) j (by omega), b_upJ, c2z (cc + 10) j (by omega) (by omega)]
            · rw [lk 4 10 (by decide), b_upc (by omega)]
            · unfold F_X1_read_s40 F_X1_readRule
              rw [if_neg zz, if_neg nz, ex, b_bind_s, if_neg x10, if_neg (show ¬ x = -1 by omega), if_pos t1]
              unfold b_let
              dsimp only
              rw [hC1, hC2, b_bind_s, if_neg x8]
              unfold b_g
              rw [if_pos (show 0 ≤ x ∧ x < 10 by omega), w4, b_b2, if_neg (show ¬ (1 : Int) = 0 by decide), w5, b_bind_s, tn2, if_pos ⟨b2, b3⟩, tell_a ⟨b2, b3⟩ (by omega), b_bind_s, hL, b_bind_s, b_b2, if_neg (show ¬ (1 : Int) = 0 by decide)]
        refine b_Wi (fun y6 => ?_) (fun y6 => b_Wi (fun y7 => ?_) (fun y7 => ?_))
        · unfold F_X12_readClause_b102
          exact b107 1 (by rw [su1, if_pos (by omega)])
        · unfold F_X12_readClause_b102
          exact b107 1 (by rw [su1, if_pos (by omega)])
        · exact b107 0 (by rw [su1, if_neg (by omega)])
