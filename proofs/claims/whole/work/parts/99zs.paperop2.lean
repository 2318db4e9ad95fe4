def P_out (Z : bM) : Prop := R_tape Z ∧ R_sign Z ∧ R_pap Z ∧ R_marks Z ∧ R_wts Z ∧ R_ev Z ∧ R_w0 Z
theorem op_paper {v1 v2 v3 v4 v5 v6 v7 : Int} {M : bM} (hC : C_all M) (hT : R_tape M) (hD : R_day M) (hK : R_code M) (hW0 : R_w0 M) : b_wp (F_X11_paper v1 v2 v3 v4 v5 v6 v7 M) (fun o => b_wp (F_X12_paper v1 v2 v3 v4 v5 v6 v7 o.2) (fun o2 => o.1 = o2.1 ∧ P_out o2.2)) := by
  obtain ⟨⟨hPp, hKn, hL, hS, hPa, hPg, hRu, hWt, hBu⟩, hEv, ⟨hg1, hPr, hMk⟩, hRo⟩ := hC
  have hB := cb_B hT
  have b1 : M 11 52 = M 6 0 ∧ 0 ≤ M 6 0 ∧ M 6 0 ≤ 30 := hBu
  have p1 := hPp.1
  have l1 := hL.1
  have s1 := hS.1
  have r1 := hRu.1
  have tk : ∀ P : bM, P 11 1 = M 11 1 → P 162 = M 162 → b_wp (F_X12_take P) (fun N => b_fr W_X12_take P N ∧ N 11 1 = 0 ∧ rb N = cb M ∧ N 11 2 ≤ 1000 ∧ Rs (cb M) N 0) := by
    intro P q1 q2
    refine t_take hB (fun p => ?_) (by rw [q1, hT.1]; exact hT.2.2.1)
    rw [q1, q2, hT.1, hT.2.2.2.1]
    rfl
  have tape : ∀ N : bM, N 11 1 = 0 → N 1 1 = 0 → N 72 = M 72 → N 162 = M 162 → R_tape N := by
    intro N a1 a2 a3 a4
    refine ⟨by rw [a1, a2], by omega, by omega, by rw [a4, a3]; exact hT.2.2.2.1, fun i => by rw [a3]; exact hT.2.2.2.2 i⟩
  -- no PAPER was added
  have failK : ∀ R : bM, b_fr W_fail M R → (∀ j, j < 1440 → R 205 j = M 205 j ∧ R 206 j = M 206 j) → (∀ j, j ≠ 120 → R 207 j = M 207 j) → R 11 1 = 0 → R 1 1 = 0 → P_out R := by
    intro R f d5 d7 a1 a2
    have r5 : R 5 0 = M 5 0 := f 5 0 (by decide)
    have sb : Sb M R := b_kp1 f (by decide +kernel)
    have sq : Sq M R := by
      refine ⟨sb, s1.1, fun k k0 k1 => ⟨fun d => sq_cant sb (fun p _ _ => f 163 p (by simp [b_ins, W_fail])) (fun l _ _ => ⟨f 170 l (by simp [b_ins, W_fail]), f 171 l (by simp [b_ins, W_fail])⟩) hPa hS ⟨k0, k1⟩ d, fun a => ?_⟩⟩
      obtain ⟨m1, m2, m3⟩ := hMk k k0 k1
      exact x_wt_c (sq_c sb _ (fun _ => rfl)) (sq_c sb _ (fun _ => rfl)) (sq_c sb _ (fun _ => rfl)) (sq_c sb _ (fun _ => rfl)) (sq_c sb _ (fun _ => rfl)) (sq_c sb _ (fun _ => rfl)) (sq_c sb _ (fun _ => rfl)) (sq_c sb _ (fun _ => rfl)) (sq_c sb _ (fun _ => rfl)) (sq_c sb _ (fun _ => rfl)) (sb 194 k rfl) (fun w => x_mk_c (d7 k (by omega)) (fun i i0 i1 => d5 _ (by omega)) w) a
    refine ⟨tape R a1 a2 (funext fun i => f 72 i (by simp [b_ins, W_fail])) (funext fun i => f 162 i (by simp [b_ins, W_fail])), R_sign_k (b_kp1 f (by decide +kernel)) hS, R_pap_k (b_kp1 f (by decide +kernel)) hPa, ?_, sq_wts sq (f 4 0 (by decide)) (funext fun i => f 124 i (by simp [b_ins, W_fail])) hWt, sq_ev sq (b_kp1 f (by decide +kernel)) hEv, R_w0_k (b_kp1 f (by decide +kernel)) hW0⟩
    intro k k0 k1
    rw [r5] at k1
    obtain ⟨m1, m2, m3⟩ := hMk k k0 k1
    have e119 : R 119 = M 119 := funext fun i => f 119 i (by simp [b_ins, W_fail])
    have e120 : R 120 = M 120 := funext fun i => f 120 i (by simp [b_ins, W_fail])
    have e121 : R 121 = M 121 := funext fun i => f 121 i (by simp [b_ins, W_fail])
    rw [e119, e120, e121, d7 k (by omega)]
    refine ⟨m1, fun i i0 i1 => ?_, m3⟩
    rw [(d5 (12 * k + i) (by omega)).1, (d5 (12 * k + i) (by omega)).2]
    exact m2 i i0 i1
  -- the reference, up to its reading of MARKS
  have rd : ∀ (P : bM) (K : Int × bM → Prop), P 11 1 = M 11 1 → P 162 = M 162 → P 11 52 = M 6 0 → P 11 12 = M 2 0 → P 11 20 = M 3 0 → (¬ Gd (M 6 0) (M 2 0) (M 3 0) v1 v2 v3 v4 v5 v6 v7 → ∀ N, b_fr W_X12_take P N → N 11 1 = 0 → K (-2, N)) → (Gd (M 6 0) (M 2 0) (M 3 0) v1 v2 v3 v4 v5 v6 v7 → ∀ (u : Int) (R : bM), b_fr (W_X12_readMarks ++ W_X12_take) P R → R 11 1 = 0 → ((∀ j, j < 1440 → R 205 j = P 205 j ∧ R 206 j = P 206 j) ∧ ∀ j, j ≠ 120 → R 207 j = P 207 j) → (∃ v, Mo (cb M) v ∧ ((v = -1 ∧ u = 0) ∨ ((0 ≤ v ∧ v ≤ 12) ∧ u = 1 ∧ R 207 120 = v ∧ ∀ j : Nat, (j : Int) < v → R 205 (1440 + (j : Int)) = vT (cb M) (x_mi (cb M) j) ∧ R 206 (1440 + (j : Int)) = x_mu (cb M) j))) → b_wp (if u = 0 then (some ((-1), R)) else (if (R 11 53) = 120 then (some ((-3), R)) else fPW v1 v2 v3 v4 v5 v6 v7 R)) K) → b_wp (F_X12_paper v1 v2 v3 v4 v5 v6 v7 P) K := by
    intro P K a1 a2 a3 a4 a5 hn hg
    unfold F_X12_paper
    refine b_Wb (b_wp_m (fun N w => ?_) (tk P a1 a2))
    obtain ⟨w1, w2, w3, w4, w5⟩ := w
    refine t_paperR (n6 := M 6 0) (n2 := M 2 0) (n3 := M 3 0) ⟨by rw [w1 11 52 (by decide)]; exact a3, by omega, by omega⟩ ⟨by rw [w1 11 12 (by decide)]; exact a4, by omega, by omega⟩ ⟨by rw [w1 11 20 (by decide)]; exact a5, by omega, by omega⟩ (fun g => hn g N w1 w2) (fun g => ?_)
    obtain ⟨g1, g2, g3, g4, g5, g6, g7, g8⟩ := g
    unfold F_X12_paper_b76
    refine b_We e_X12_isDay (b_Wf (b_01_p g6) (b_We e_X12_in (b_Wf (b_01_p ⟨g8, g7.2⟩) (b_Wb (b_wp_m (fun o x => ?_) (t_readMarksR (M := N) (c := cb M) hB ⟨⟨w3, w4⟩, w5⟩))))))
    obtain ⟨u, R⟩ := o
    obtain ⟨x1, x2, x3⟩ := x
    dsimp only at x1 x2 x3
    refine b_Wtwo ?_
    refine hg ⟨g1, g2, g3, g4, g5, g6, g7, g8⟩ u R (b_fr_tr (b_fr_mo (by decide) w1) (b_fr_mo (by decide) x1)) ?_ ⟨fun j hj => ?_, fun j hj => ?_⟩ x3
    · rw [x1 11 1 (by decide)]; exact w2
    · rw [(x2.1 j hj).1, (x2.1 j hj).2, w1 205 j (by simp [b_ins, W_X12_take]), w1 206 j (by simp [b_ins, W_X12_take])]; exact ⟨rfl, rfl⟩
    · rw [x2.2 j hj, w1 207 j (by simp [b_ins, W_X12_take])]
  by_cases g : Gd (M 6 0) (M 2 0) (M 3 0) v1 v2 v3 v4 v5 v6 v7
  · refine e_paper_g g (b_wp_m (fun t z => ?_) (t_readMarks hT))
    obtain ⟨x, Q⟩ := t
    obtain ⟨fQ, v, hv, z3⟩ := z
    dsimp only at fQ z3 ⊢
    -- a reading that adds none
    have none1 : ∀ y : Int, x = y → y < 0 → (∀ (u : Int) (R : bM) (v' : Int), v' = v → R 11 53 = M 5 0 → ((v' = -1 ∧ u = 0) ∨ ((0 ≤ v' ∧ v' ≤ 12) ∧ u = 1)) → (if u = 0 then (some ((-1), R)) else (if (R 11 53) = 120 then (some ((-3), R)) else fPW v1 v2 v3 v4 v5 v6 v7 R)) = some (y, R)) → b_wp (F_X11_paper_b108 v1 v2 v3 v4 v5 v6 v7 x Q) (fun o => b_wp (F_X12_paper v1 v2 v3 v4 v5 v6 v7 o.2) (fun o2 => o.1 = o2.1 ∧ P_out o2.2)) := by
      intro y e1 e2 e3
      subst e1
      refine b_wp_of (e_p108 e2) ?_
      dsimp only
      have q : ∀ c j, b_ins ((1, some 1) :: W_X7_readMarks_1) c j = false → b_up Q 1 1 0 c j = M c j := b_frF (b_fr_mo (by decide) fQ) (by decide)
      refine rd _ _ (q 11 1 (by decide)) (funext fun i => q 162 i (by simp [b_ins, W_X7_readMarks_1])) (by rw [q 11 52 (by decide)]; exact b1.1) (by rw [q 11 12 (by decide)]; exact p1.1) (by rw [q 11 20 (by decide)]; exact l1.1) (fun n => absurd g n) (fun _ u R f a dd w => ?_)
      obtain ⟨v', hv', w'⟩ := w
      have ev := Mo_u hv' hv
      have fR : b_fr W_fail M R := b_fr_tr (b_fr_mo (by decide +kernel) q) (b_fr_mo (by decide +kernel) f)
      refine b_wp_of (e3 u R v' ev (by rw [fR 11 53 (by decide)]; exact s1.1) (w'.imp id (fun w => ⟨w.1, w.2.1⟩))) ⟨rfl, failK R fR (fun j hj => ?_) (fun j hj => ?_) a ?_⟩
      · rw [(dd.1 j hj).1, (dd.1 j hj).2, q 205 j (by simp [b_ins, W_X7_readMarks_1]), q 206 j (by simp [b_ins, W_X7_readMarks_1])]; exact ⟨rfl, rfl⟩
      · rw [dd.2 j hj, q 207 j (by simp [b_ins, W_X7_readMarks_1])]
      · rw [f 1 1 (by decide), b_ups]
    rcases z3 with z3 | ⟨vr, z3, q16, qd⟩
    · refine none1 (-1) z3.2 (by decide) (fun u R v' e _ w => ?_)
      rcases w with w | w
      · rw [if_pos w.2]
      · omega
    · by_cases full : M 5 0 < 120
      · rw [if_pos full] at z3
        subst z3
        -- the PAPER is added
        generalize hk : M 5 0 = k at *
        obtain ⟨g1, g2, g3, g4, g5, g6, g7, g8⟩ := g
        unfold F_X11_paper_b108
        refine b_We (show F_X10_clear Q = some (b_up Q 1 1 0) by unfold F_X10_clear; rfl) (b_Wt (by decide) ?_)
        generalize hU : b_up Q 1 1 0 = U
        have fU : b_fr ((1, some 1) :: W_X7_readMarks_1) M U := by subst hU; exact b_frF (b_fr_mo (by decide) fQ) (by decide)
        have u11 : U 1 1 = 0 := by subst hU; exact b_ups
        have uQ : ∀ c j, c ≠ 1 → U c j = Q c j := fun c j h => by subst hU; exact b_upc h
        clear hU
        have u50 : U 5 0 = k := by rw [fU 5 0 (by decide)]; exact hk
        refine b_Wb (b_wp_m (fun o y => ?_) (t_addP (U := U) (by omega)))
        obtain ⟨x4, A⟩ := o
        obtain ⟨fA, y0, y5, y110, y111, y112, y116, y119, y120, y121⟩ := y
        dsimp only at fA y0 y5 y110 y111 y112 y116 y119 y120 y121
        rw [u50] at y0 y5 y110 y111 y112 y116 y119 y120 y121
        subst y0
        refine b_Wtwo ?_
        dsimp only
        refine b_Wb (b_wp_m (fun B y => ?_) (t_say (U := A) (by omega) (by omega)))
        obtain ⟨fB, y115, y113, y114⟩ := y
        have fMB : b_fr ((1, some 1) :: W_X7_readMarks_1 ++ (W_X7_add ++ W_X7_say)) M B := b_fr_tr (b_fr_mo (by decide) fU) (b_fr_tr (b_fr_mo (by decide) fA) (b_fr_mo (by decide) fB))
        have bB5 : B 5 0 = x4 + 1 := by rw [fB 5 0 (by decide)]; exact y5
        have b110 : ∀ j, B 110 j = if j = x4 then v1 else M 110 j := fun j => by rw [fB 110 j (by simp [b_ins, W_X7_say]), y110 j, fU 110 j (by simp [b_ins, W_X7_readMarks_1])]
        have b111 : ∀ j, B 111 j = if j = x4 then v2 else M 111 j := fun j => by rw [fB 111 j (by simp [b_ins, W_X7_say]), y111 j, fU 111 j (by simp [b_ins, W_X7_readMarks_1])]
        have b112 : ∀ j, B 112 j = if j = x4 then M 0 10 else M 112 j := fun j => by rw [fB 112 j (by simp [b_ins, W_X7_say]), y112 j, fU 112 j (by simp [b_ins, W_X7_readMarks_1]), fU 0 10 (by decide)]
        have b116 : ∀ j, B 116 j = if j = x4 then -1 else M 116 j := fun j => by rw [fB 116 j (by simp [b_ins, W_X7_say]), y116 j, fU 116 j (by simp [b_ins, W_X7_readMarks_1])]
        have b119 : ∀ j, B 119 j = if j = x4 then v else M 119 j := fun j => by rw [fB 119 j (by simp [b_ins, W_X7_say]), y119 j, fU 119 j (by simp [b_ins, W_X7_readMarks_1]), uQ 5 16 (by decide), q16]
        have b120 : ∀ j, B 120 j = if 12 * x4 ≤ j ∧ j < 12 * x4 + 12 then Q 122 (j - 12 * x4) else M 120 j := fun j => by rw [fB 120 j (by simp [b_ins, W_X7_say]), y120 j, fU 120 j (by simp [b_ins, W_X7_readMarks_1]), uQ 122 _ (by decide)]
        have b121 : ∀ j, B 121 j = if 12 * x4 ≤ j ∧ j < 12 * x4 + 12 then Q 123 (j - 12 * x4) else M 121 j := fun j => by rw [fB 121 j (by simp [b_ins, W_X7_say]), y121 j, fU 121 j (by simp [b_ins, W_X7_readMarks_1]), uQ 123 _ (by decide)]
        have b115 : ∀ j, B 115 j = if j = 3 * x4 + 2 then v5 else if j = 3 * x4 + 1 then v4 else if j = 3 * x4 then v3 else M 115 j := fun j => by rw [y115 j, fA 115 j (by simp [b_ins, W_X7_add]), fU 115 j (by simp [b_ins, W_X7_readMarks_1])]
        have b113 : ∀ j, B 113 j = if j = x4 then v6 else M 113 j := fun j => by rw [y113 j, fA 113 j (by simp [b_ins, W_X7_add]), fU 113 j (by simp [b_ins, W_X7_readMarks_1])]
        have b114 : ∀ j, B 114 j = if j = x4 then v7 else M 114 j := fun j => by rw [y114 j, fA 114 j (by simp [b_ins, W_X7_add]), fU 114 j (by simp [b_ins, W_X7_readMarks_1])]
        have b11 : B 1 1 = 0 := by rw [fB 1 1 (by decide), fA 1 1 (by decide)]; exact u11
        have gm := Mo_r hv
        -- MARKS of the new PAPER, class and reference
        have mk : ∀ N : bM, N 5 0 = x4 + 1 → (∀ j, N 119 j = B 119 j) → (∀ j, N 120 j = B 120 j) → (∀ j, N 121 j = B 121 j) → (∀ j, N 207 j = if j = x4 then v else M 207 j) ∨ (∀ j, j < 120 → N 207 j = if j = x4 then v else M 207 j) → (∀ j, 0 ≤ j → j < 1440 → ¬ (12 * x4 ≤ j ∧ j < 12 * x4 + 12) → N 205 j = M 205 j ∧ N 206 j = M 206 j) → (∀ i, 0 ≤ i → i < v → N 205 (12 * x4 + i) = B 120 (12 * x4 + i) ∧ N 206 (12 * x4 + i) = B 121 (12 * x4 + i)) → R_marks N := by
          intro N n5 n119 n120 n121 n207' nold nnew
          have n207 : ∀ j, j < 120 → N 207 j = if j = x4 then v else M 207 j := by
            rcases n207' with h | h
            · exact fun j _ => h j
            · exact h
          intro k' k0 k1
          rw [n5] at k1
          by_cases e : k' = x4
          · subst e
            rw [n119, b119, if_pos rfl, n207 _ (by omega), if_pos rfl]
            have val : ∀ i, 0 ≤ i → i < v → B 120 (12 * k' + i) = vT (cb M) (x_mi (cb M) i.toNat) ∧ B 121 (12 * k' + i) = x_mu (cb M) i.toNat := by
              intro i i0 i1
              have := qd i.toNat (by omega)
              rw [show ((i.toNat : Nat) : Int) = i by omega] at this
              rw [b120, b121, if_pos (by omega), if_pos (by omega), show 12 * k' + i - 12 * k' = i by omega]
              exact this
            refine ⟨⟨rfl, vr⟩, fun i i0 i1 => ?_, fun i j i0 ij j1 => ?_⟩
            · obtain ⟨w1, w2⟩ := nnew i i0 i1
              rw [w1, w2, n120, n121]
              refine ⟨rfl, rfl, ?_⟩
              rw [(val i i0 i1).2]
              exact x_mu_r hB (gm i.toNat (by omega))
            · rw [n120, n120, (val i i0 (by omega)).1, (val j (by omega) j1).1]
              exact (gm j.toNat (by omega)).2.2.1 i.toNat (by omega)
          · obtain ⟨m1, m2, m3⟩ := hMk k' k0 (by omega)
            rw [n119, b119, if_neg e, n207 _ (by omega), if_neg e]
            have o120 : ∀ i, 0 ≤ i → i < 12 → N 120 (12 * k' + i) = M 120 (12 * k' + i) ∧ N 121 (12 * k' + i) = M 121 (12 * k' + i) := fun i i0 i1 => by rw [n120, n121, b120, b121, if_neg (by omega), if_neg (by omega)]; exact ⟨rfl, rfl⟩
            refine ⟨m1, fun i i0 i1 => ?_, fun i j i0 ij j1 => ?_⟩
            · obtain ⟨w1, w2⟩ := nold (12 * k' + i) (by omega) (by omega) (by omega)
              rw [w1, w2, (o120 i i0 (by omega)).1, (o120 i i0 (by omega)).2]
              exact m2 i i0 i1
            · rw [(o120 i i0 (by omega)).1, (o120 j (by omega) (by omega)).1]
              exact m3 i j i0 ij j1
        -- a memory in which both have it
        generalize hX : b_set (b_set (b_set (b_set B 194 (fun j => if j = x4 then v1 else M 194 j)) 205 (fun j => if 12 * x4 ≤ j ∧ j < 12 * x4 + 12 then B 120 j else M 205 j)) 206 (fun j => if 12 * x4 ≤ j ∧ j < 12 * x4 + 12 then B 121 j else M 206 j)) 207 (fun j => if j = x4 then v else M 207 j) = X
        have xo : ∀ c j, c ≠ 194 → c ≠ 205 → c ≠ 206 → c ≠ 207 → X c j = B c j := fun c j h1 h2 h3 h4 => by subst hX; rw [b_set_n h4, b_set_n h3, b_set_n h2, b_set_n h1]
        have x194 : ∀ j, X 194 j = if j = x4 then v1 else M 194 j := fun j => by subst hX; rw [b_set_n (by decide), b_set_n (by decide), b_set_n (by decide), b_set_s]
        have x205 : ∀ j, X 205 j = if 12 * x4 ≤ j ∧ j < 12 * x4 + 12 then B 120 j else M 205 j := fun j => by subst hX; rw [b_set_n (by decide), b_set_n (by decide), b_set_s]
        have x206 : ∀ j, X 206 j = if 12 * x4 ≤ j ∧ j < 12 * x4 + 12 then B 121 j else M 206 j := fun j => by subst hX; rw [b_set_n (by decide), b_set_s]
        have x207 : ∀ j, X 207 j = if j = x4 then v else M 207 j := fun j => by subst hX; rw [b_set_s]
        have fX : b_fr (((1, some 1) :: W_X7_readMarks_1 ++ (W_X7_add ++ W_X7_say)) ++ [(194, none), (205, none), (206, none), (207, none)]) M X := by
          subst hX
          exact b_frS (b_frS (b_frS (b_frS (b_fr_mo (by decide) fMB) (by decide)) (by decide)) (by decide)) (by decide)
        clear hX
        have hmX : Hm X B := fun c j _ _ hc => (xo c j (by omega) (by omega) (by omega) (by omega)).symm
        have mX : R_marks X := mk X (by rw [xo 5 0 (by decide) (by decide) (by decide) (by decide)]; exact bB5) (fun j => xo _ _ (by decide) (by decide) (by decide) (by decide)) (fun j => xo _ _ (by decide) (by decide) (by decide) (by decide)) (fun j => xo _ _ (by decide) (by decide) (by decide) (by decide)) (Or.inl x207) (fun j _ _ n => by rw [x205, x206, if_neg n, if_neg n]; exact ⟨rfl, rfl⟩) (fun i i0 i1 => by rw [x205, x206, if_pos (by omega), if_pos (by omega)]; exact ⟨rfl, rfl⟩)
        have x40 : X 4 0 = M 4 0 := fX 4 0 (by decide)
        have x50 : X 5 0 = x4 + 1 := by rw [xo 5 0 (by decide) (by decide) (by decide) (by decide)]; exact bB5
        refine b_Wb (b_wp_m (fun D y => ?_) (b_wl_wp (w_X7_weigh_4 b_fr_refl) (t_weigh (M := X) (N := B) (k := x4) (R_rules_k (b_kp1 fX (by decide +kernel)) hRu) (R_prog_k (b_kp1 fX (by decide +kernel)) hPr) (R_code_k (b_kp1 fX (by decide +kernel)) (by omega) hK) mX (by omega) (by omega) (by rw [x194, if_pos rfl, xo 110 _ (by decide) (by decide) (by decide) (by decide), b110, if_pos rfl]) hmX)))
        obtain ⟨fD, _, y124⟩ := y
        rw [x40] at y124
        refine b_We (show F_X4_forget D = some (b_up D 6 5 0) by unfold F_X4_forget; rfl) (b_Ws ?_)
        dsimp only
        generalize hO : b_up D 6 5 0 = O
        have fO : b_fr [(6, some 5), (124, none), (125, none)] B O := by subst hO; exact b_frF (b_fr_mo (by decide) fD) (by decide)
        have o65 : O 6 5 = 0 := by subst hO; exact b_ups
        have o124 : ∀ j, O 124 j = if 9 * x4 + 1 ≤ j ∧ j ≤ 9 * x4 + M 4 0 then x_wt X (j - 9 * x4) x4 else M 124 j := fun j => by
          subst hO
          rw [b_upc (by decide), y124 j, fMB 124 j (by simp [b_ins, W_X7_readMarks_1, W_X7_add, W_X7_say])]
        clear hO
        have fMO : b_fr (((1, some 1) :: W_X7_readMarks_1 ++ (W_X7_add ++ W_X7_say)) ++ [(6, some 5), (124, none), (125, none)]) M O := b_fr_tr (b_fr_mo (by decide) fMB) (b_fr_mo (by decide) fO)
        refine rd O _ (fMO 11 1 (by decide)) (funext fun i => fMO 162 i (by simp [b_ins, W_X7_readMarks_1, W_X7_add, W_X7_say])) (by rw [fMO 11 52 (by decide)]; exact b1.1) (by rw [fMO 11 12 (by decide)]; exact p1.1) (by rw [fMO 11 20 (by decide)]; exact l1.1) (fun n => absurd ⟨g1, g2, g3, g4, g5, g6, g7, g8⟩ n) (fun _ u R f a dd w => ?_)
        obtain ⟨v', hv', w'⟩ := w
        have ev := Mo_u hv' hv
        subst ev
        obtain ⟨_, eu, r120, rdr⟩ : (0 ≤ v' ∧ v' ≤ 12) ∧ u = 1 ∧ R 207 120 = v' ∧ ∀ j : Nat, (j : Int) < v' → R 205 (1440 + (j : Int)) = vT (cb M) (x_mi (cb M) j) ∧ R 206 (1440 + (j : Int)) = x_mu (cb M) j := by
          rcases w' with w | w
          · omega
          · exact w
        have r53 : R 11 53 = x4 := by rw [f 11 53 (by decide), fMO 11 53 (by decide), s1.1]
        refine b_Wf (by omega) (b_Wf (by omega) (b_wp_m (fun o y => ?_) (t_fPW r53 (by omega))))
        obtain ⟨y1, Z⟩ := o
        obtain ⟨e1, fZ, z53, z194, z195, z196, z197, z198, z199, z207, z205, z206⟩ := y
        dsimp only at e1 fZ z53 z194 z195 z196 z197 z198 z199 z207 z205 z206 ⊢
        refine ⟨e1.symm, ?_⟩
        have fRZ : b_fr (W_pw ++ (W_X12_readMarks ++ W_X12_take)) O Z := b_fr_tr (b_fr_mo (by decide) f) (b_fr_mo (by decide) fZ)
        have zB : ∀ c j, b_ins (W_pw ++ (W_X12_readMarks ++ W_X12_take) ++ [(6, some 5), (124, none), (125, none)]) c j = false → Z c j = B c j := b_fr_tr (b_fr_mo (by decide) fO) (b_fr_mo (by decide) fRZ)
        have zM : ∀ c j, b_ins (W_pw ++ (W_X12_readMarks ++ W_X12_take) ++ (((1, some 1) :: W_X7_readMarks_1 ++ (W_X7_add ++ W_X7_say)) ++ [(6, some 5), (124, none), (125, none)])) c j = false → Z c j = M c j := b_fr_tr (b_fr_mo (by decide) fMO) (b_fr_mo (by decide) fRZ)
        have z50 : Z 5 0 = x4 + 1 := by rw [zB 5 0 (by decide)]; exact bB5
        have z11 : Z 1 1 = 0 := by rw [zB 1 1 (by decide)]; exact b11
        have z111 : Z 11 1 = 0 := by rw [fZ 11 1 (by decide)]; exact a
        have z124 : ∀ j, Z 124 j = O 124 j := fun j => fRZ 124 j (by simp [b_ins, W_pw, W_X12_readMarks, W_X12_take])
        have rO : ∀ c j, c = 194 ∨ c = 195 ∨ c = 196 ∨ c = 197 ∨ c = 198 ∨ c = 199 → R c j = M c j := by
          intro c j h
          rcases h with h | h | h | h | h | h <;> subst h <;> (rw [f _ j (by simp [b_ins, W_X12_readMarks, W_X12_take]), fMO _ j (by simp [b_ins, W_X7_readMarks_1, W_X7_add, W_X7_say])])
        have r1111 : R 11 11 = M 0 10 := by rw [f 11 11 (by decide), fMO 11 11 (by decide)]; exact hD.1
        have r205 : ∀ j, j < 1440 → R 205 j = M 205 j ∧ R 206 j = M 206 j := fun j hj => by
          rw [(dd.1 j hj).1, (dd.1 j hj).2, fMO 205 j (by simp [b_ins, W_X7_readMarks_1, W_X7_add, W_X7_say]), fMO 206 j (by simp [b_ins, W_X7_readMarks_1, W_X7_add, W_X7_say])]
          exact ⟨rfl, rfl⟩
        have r207 : ∀ j, j ≠ 120 → R 207 j = M 207 j := fun j hj => by rw [dd.2 j hj, fMO 207 j (by simp [b_ins, W_X7_readMarks_1, W_X7_add, W_X7_say])]
        have mZ : R_marks Z := by
          refine mk Z z50 (fun j => zB 119 j (by simp [b_ins, W_pw, W_X12_readMarks, W_X12_take])) (fun j => zB 120 j (by simp [b_ins, W_pw, W_X12_readMarks, W_X12_take])) (fun j => zB 121 j (by simp [b_ins, W_pw, W_X12_readMarks, W_X12_take])) (Or.inr (fun j hj => ?_)) (fun j j0 j1 n => ?_) (fun i i0 i1 => ?_)
          · rw [z207, r120]
            by_cases e : j = x4
            · rw [if_pos e, if_pos e]
            · rw [if_neg e, if_neg e, r207 j (by omega)]
          · rw [z205, z206, if_neg n, if_neg n]
            exact r205 j j1
          · have w := rdr i.toNat (by omega)
            have w2 := qd i.toNat (by omega)
            rw [show ((i.toNat : Nat) : Int) = i by omega] at w w2
            rw [z205, z206, if_pos (by omega), if_pos (by omega), show 12 * x4 + i - 12 * x4 = i by omega, w.1, w.2, b120, b121, if_pos (by omega), if_pos (by omega), show 12 * x4 + i - 12 * x4 = i by omega, w2.1, w2.2]
            exact ⟨rfl, rfl⟩
        -- weights
        have kc : ∀ c, (∀ i, b_ins (W_pw ++ (W_X12_readMarks ++ W_X12_take) ++ (((1, some 1) :: W_X7_readMarks_1 ++ (W_X7_add ++ W_X7_say)) ++ [(6, some 5), (124, none), (125, none)])) c i = false) → Z c = M c := fun c h => funext fun i => zM c i (h i)
        have kx : ∀ c, (∀ i, b_ins (W_pw ++ (W_X12_readMarks ++ W_X12_take) ++ (((1, some 1) :: W_X7_readMarks_1 ++ (W_X7_add ++ W_X7_say)) ++ [(6, some 5), (124, none), (125, none)])) c i = false) → (∀ i, b_ins (((1, some 1) :: W_X7_readMarks_1 ++ (W_X7_add ++ W_X7_say)) ++ [(194, none), (205, none), (206, none), (207, none)]) c i = false) → Z c = X c := fun c h h2 => funext fun i => by rw [zM c i (h i), fX c i (h2 i)]
        have wold : ∀ k' a', 0 ≤ k' → k' < x4 → x_wt Z a' k' = x_wt M a' k' := by
          intro k' a' k0 k1
          refine x_wt_c (kc _ (fun _ => rfl)) (kc _ (fun _ => rfl)) (kc _ (fun _ => rfl)) (kc _ (fun _ => rfl)) (kc _ (fun _ => rfl)) (kc _ (fun _ => rfl)) (kc _ (fun _ => rfl)) (kc _ (fun _ => rfl)) (kc _ (fun _ => rfl)) (kc _ (fun _ => rfl)) (by rw [z194, if_neg (by omega), rO _ _ (Or.inl rfl)]) (fun w => x_mk_c (by rw [z207, if_neg (by omega), r207 k' (by omega)]) (fun i i0 i1 => ?_) w) a'
          have := (hMk k' k0 (by omega)).1
          rw [z205, z206, if_neg (by omega), if_neg (by omega)]
          exact r205 _ (by omega)
        have wnew : ∀ a', x_wt Z a' x4 = x_wt X a' x4 := by
          intro a'
          refine x_wt_c (kx _ (fun _ => rfl) (fun _ => rfl)) (kx _ (fun _ => rfl) (fun _ => rfl)) (kx _ (fun _ => rfl) (fun _ => rfl)) (kx _ (fun _ => rfl) (fun _ => rfl)) (kx _ (fun _ => rfl) (fun _ => rfl)) (kx _ (fun _ => rfl) (fun _ => rfl)) (kx _ (fun _ => rfl) (fun _ => rfl)) (kx _ (fun _ => rfl) (fun _ => rfl)) (kx _ (fun _ => rfl) (fun _ => rfl)) (kx _ (fun _ => rfl) (fun _ => rfl)) (by rw [z194, if_pos rfl, x194, if_pos rfl]) (fun w => x_mk_c (by rw [z207, if_pos rfl, x207, if_pos rfl, r120]) (fun i i0 i1 => ?_) w) a'
          rw [x207, if_pos rfl] at i1
          have m1 := (mZ x4 (by omega) (by omega)).2.1 i i0 (by rw [zB 119 _ (by simp [b_ins, W_pw, W_X12_readMarks, W_X12_take]), b119, if_pos rfl]; exact i1)
          have m2 := (mX x4 (by omega) (by omega)).2.1 i i0 (by rw [xo 119 _ (by decide) (by decide) (by decide) (by decide), b119, if_pos rfl]; exact i1)
          rw [m1.1, m1.2.1, m2.1, m2.2.1, zB 120 _ (by simp [b_ins, W_pw, W_X12_readMarks, W_X12_take]), zB 121 _ (by simp [b_ins, W_pw, W_X12_readMarks, W_X12_take]), xo 120 _ (by decide) (by decide) (by decide) (by decide), xo 121 _ (by decide) (by decide) (by decide) (by decide)]
          exact ⟨rfl, rfl⟩
        have z40 : Z 4 0 = M 4 0 := zM 4 0 (by decide)
        refine ⟨tape Z z111 z11 (kc 72 (fun _ => rfl)) (kc 162 (fun _ => rfl)), ?_, ?_, mZ, ?_, Or.inl ?_, ?_⟩
        · refine ⟨⟨by rw [z53, z50], by omega, by omega⟩, fun i i0 i1 => ?_, fun i i0 i1 => ?_⟩
          · rw [z50] at i1
            rw [zB 116 i (by simp [b_ins, W_pw, W_X12_readMarks, W_X12_take]), b116, kc 200 (fun _ => rfl), kc 201 (fun _ => rfl), kc 202 (fun _ => rfl), kc 203 (fun _ => rfl), kc 204 (fun _ => rfl), kc 117 (fun _ => rfl), kc 118 (fun _ => rfl)]
            by_cases e : i = x4
            · rw [if_pos e]
              exact Or.inl ⟨hS.2.2 i (by omega) (by omega), rfl⟩
            · rw [if_neg e]
              exact hS.2.1 i i0 (by omega)
          · rw [z50] at i0
            rw [kc 200 (fun _ => rfl)]
            exact hS.2.2 i (by omega) i1
        · intro k' k0 k1
          rw [z50] at k1
          have c1 : ∀ c j, c = 110 ∨ c = 111 ∨ c = 112 ∨ c = 113 ∨ c = 114 ∨ c = 115 ∨ c = 116 → Z c j = B c j := by
            intro c j h
            rcases h with h | h | h | h | h | h | h <;> subst h <;> exact zB _ j (by simp [b_ins, W_pw, W_X12_readMarks, W_X12_take])
          unfold P_pap
          rw [c1 110 k' (by decide), c1 111 k' (by decide), c1 112 k' (by decide), c1 113 k' (by decide), c1 114 k' (by decide), c1 115 (3 * k') (by decide), c1 115 (3 * k' + 1) (by decide), c1 115 (3 * k' + 2) (by decide), c1 116 k' (by decide), b110, b111, b112, b113, b114, b115, b115, b115, b116, z194, z195, z196, z196, z196, z197, z198, z199, zM 6 0 (by decide), zM 2 0 (by decide), zM 3 0 (by decide)]
          have dy := hD.2
          by_cases e : k' = x4
          · subst e
            rw [if_pos rfl, if_pos rfl, if_pos rfl, if_pos rfl, if_pos rfl, if_pos rfl, if_pos rfl, if_pos rfl, if_pos rfl, if_pos rfl, if_pos rfl, if_neg (show ¬ 3 * k' = 3 * k' + 2 by omega), if_neg (show ¬ 3 * k' = 3 * k' + 1 by omega), if_pos rfl, if_neg (show ¬ 3 * k' + 1 = 3 * k' + 2 by omega), if_pos rfl, if_pos rfl, if_neg (show ¬ 3 * k' = 3 * k' + 2 by omega), if_neg (show ¬ 3 * k' = 3 * k' + 1 by omega), if_pos rfl, if_neg (show ¬ 3 * k' + 1 = 3 * k' + 2 by omega), if_pos rfl, if_pos rfl, r1111]
            exact ⟨⟨rfl, g1⟩, ⟨rfl, g2⟩, ⟨rfl, dy⟩, ⟨rfl, rfl, by omega, g8, by omega⟩, ⟨rfl, g3⟩, ⟨rfl, g4⟩, ⟨rfl, g5⟩, by omega⟩
          · have h := hPa k' k0 (by omega)
            unfold P_pap at h
            simp only [if_neg e, if_neg (show ¬ 3 * k' = 3 * x4 + 2 by omega), if_neg (show ¬ 3 * k' = 3 * x4 + 1 by omega), if_neg (show ¬ 3 * k' = 3 * x4 by omega), if_neg (show ¬ 3 * k' + 1 = 3 * x4 + 2 by omega), if_neg (show ¬ 3 * k' + 1 = 3 * x4 + 1 by omega), if_neg (show ¬ 3 * k' + 1 = 3 * x4 by omega), if_neg (show ¬ 3 * k' + 2 = 3 * x4 + 2 by omega), if_neg (show ¬ 3 * k' + 2 = 3 * x4 + 1 by omega), if_neg (show ¬ 3 * k' + 2 = 3 * x4 by omega)]
            rw [rO 194 _ (by decide), rO 195 _ (by decide), rO 196 _ (by decide), rO 196 _ (by decide), rO 196 _ (by decide), rO 197 _ (by decide), rO 198 _ (by decide), rO 199 _ (by decide)]
            exact h
        · intro k' k0 k1 a' a0 a1
          rw [z50] at k1
          rw [z40] at a1
          rw [z124, o124]
          by_cases e : k' = x4
          · subst e
            by_cases ea : a' = 0
            · subst ea
              rw [if_neg (by omega), show 9 * k' + 0 = 9 * k' by omega, hW0 k' k0 (by omega)]
              refine ⟨?_, by omega, by omega⟩
              unfold x_wt
              rw [if_pos rfl]
            · rw [if_pos (by omega), show 9 * k' + a' - 9 * k' = a' by omega, wnew]
              have r := x_wtN_r (M := X) (a := a'.toNat) (k := k') (R_rules_k (b_kp1 fX (by decide +kernel)) hRu) (R_prog_k (b_kp1 fX (by decide +kernel)) hPr) (by omega)
              rw [show ((a'.toNat : Nat) : Int) = a' by omega] at r
              exact ⟨rfl, r⟩
          · rw [if_neg (by omega), wold k' a' k0 (by omega)]
            exact hWt k' k0 (by omega) a' a0 a1
        · rw [fRZ 6 5 (by decide)]
          exact o65
        · intro k' k0 k1
          rw [z124, o124, if_neg (by omega)]
          exact hW0 k' k0 k1
      · rw [if_neg full] at z3
        refine none1 (-3) z3 (by decide) (fun u R v' e e53 w => ?_)
        rcases w with w | w
        · omega
        · rw [if_neg (by omega), if_pos (by omega)]
  · refine b_wp_of (e_paper_n g) ?_
    dsimp only
    have q : b_fr [(1, some 1)] M (b_up M 1 1 0) := b_frF b_fr_refl (by decide)
    refine rd _ _ (q 11 1 (by decide)) (funext fun i => q 162 i (by simp [b_ins])) (by rw [q 11 52 (by decide)]; exact b1.1) (by rw [q 11 12 (by decide)]; exact p1.1) (by rw [q 11 20 (by decide)]; exact l1.1) (fun _ N f a => ⟨rfl, failK N (b_fr_tr (b_fr_mo (by decide) q) (b_fr_mo (by decide) f)) (fun j _ => ⟨?_, ?_⟩) (fun j _ => ?_) a ?_⟩) (fun n => absurd n g)
    · rw [f 205 j (by simp [b_ins, W_X12_take]), q 205 j (by simp [b_ins])]
    · rw [f 206 j (by simp [b_ins, W_X12_take]), q 206 j (by simp [b_ins])]
    · rw [f 207 j (by simp [b_ins, W_X12_take]), q 207 j (by simp [b_ins])]
    · rw [f 1 1 (by decide), b_ups]
