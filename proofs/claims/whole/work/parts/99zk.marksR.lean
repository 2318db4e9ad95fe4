theorem b_Winl {α β γ : Type} {f : α → Option γ} {g : β → Option γ} {t : α} {K : γ → Prop} (h : b_wp (f t) K) : b_wp (Sum.elim f g (Sum.inl t)) K := h
theorem z_so_4 {k v : Int} : z_so k v = 4 ↔ k = 3 ∧ v = 61 := by
  unfold z_so
  by_cases a : k = 0
  · rw [if_pos a]; omega
  · rw [if_neg a]
    by_cases b : k = 1
    · rw [if_pos b]; omega
    · rw [if_neg b]
      by_cases d : k = 2
      · rw [if_pos d]; omega
      · rw [if_neg d]
        by_cases e : k = 3
        · rw [if_pos e]
          by_cases g : v = 59
          · rw [if_pos g]; omega
          · rw [if_neg g]
            by_cases g2 : v = 61
            · rw [if_pos g2]; omega
            · rw [if_neg g2]
              split
              · omega
              · split <;> omega
        · rw [if_neg e]; omega
/-- the reference is at TOKEN i of the bytes c -/
def Rt (c : Int → Int) (M : bM) (i : Nat) : Prop := (rb M = c ∧ M 11 2 ≤ 1000) ∧ Rs c M i
theorem Rt_k {W : bW} {c : Int → Int} {M N : bM} {i : Nat} (f : b_fr W M N) (d : b_dis W [(11, some 2), (11, some 3), (11, some 4), (11, some 5), (11, some 6), (11, some 7), (11, some 10), (162, none)] = true) (h : Rt c M i) : Rt c N i := by
  have k := b_kp1 f d
  obtain ⟨⟨h1, h2⟩, h3⟩ := h
  refine ⟨⟨?_, by rw [k 11 2 rfl]; exact h2⟩, ?_⟩
  · rw [← h1]
    unfold rb
    rw [k 11 2 rfl, show N 162 = M 162 from funext fun i => k 162 i rfl]
  · unfold Rs
    rw [k 11 5 rfl, k 11 6 rfl, k 11 3 rfl, k 11 10 rfl, k 11 4 rfl, k 11 7 rfl]
    exact h3
theorem t_scanT {M : bM} {c : Int → Int} {n : Int} {i : Nat} (hB : z_B c n) (h : Rt c M i) : b_wp (F_X12_scan M) (fun N => b_fr W_sc M N ∧ Rt c N (i + 1)) := b_wp_m (fun N y => ⟨y.1, ⟨⟨y.2.1, y.2.2.1⟩, y.2.2.2⟩⟩) (t_scanN hB h.1.1 h.1.2 h.2)
/-- the reference reads MARKS -/
theorem t_readMarksR {M : bM} {c : Int → Int} {n : Int} (hB : z_B c n) (hs : Rt c M 0) : b_wp (F_X12_readMarks M) (fun o => b_fr W_X12_readMarks M o.2 ∧ ((∀ j, j < 1440 → o.2 205 j = M 205 j ∧ o.2 206 j = M 206 j) ∧ ∀ j, j ≠ 120 → o.2 207 j = M 207 j) ∧ ∃ v, Mo c v ∧ ((v = -1 ∧ o.1 = 0) ∨ ((0 ≤ v ∧ v ≤ 12) ∧ o.1 = 1 ∧ o.2 207 120 = v ∧ ∀ j : Nat, (j : Int) < v → o.2 205 (1440 + (j : Int)) = vT c (x_mi c j) ∧ o.2 206 (1440 + (j : Int)) = x_mu c j))) := by
  refine b_wl_wp (w_X12_readMarks b_fr_refl) ?_
  unfold F_X12_readMarks
  refine b_Wl ?_
  generalize hU : b_up M 207 120 0 = U
  have fU : b_fr [(207, none)] M U := by subst hU; exact b_frA b_fr_refl (by decide)
  have u207 : ∀ j, U 207 j = if j = 120 then 0 else M 207 j := fun j => by subst hU; exact b_upJ
  clear hU
  have u120 : U 207 120 = ((0 : Nat) : Int) := by rw [u207, if_pos rfl]; omega
  refine b_Wb (b_wp_m (fun o z => ?_) (b_loop_ind (P := Sum.elim (fun Q : bM => ((∀ j, j < 1440 → Q 205 j = M 205 j ∧ Q 206 j = M 206 j) ∧ ∀ j, j ≠ 120 → Q 207 j = M 207 j) ∧ ∃ m : Nat, m ≤ 12 ∧ (∀ j, j < m → Gm c j) ∧ kT c (x_mi c m) = 0 ∧ Q 207 120 = m ∧ ∀ j : Nat, j < m → Q 205 (1440 + (j : Int)) = vT c (x_mi c j) ∧ Q 206 (1440 + (j : Int)) = x_mu c j) (fun o : Int × bM => ((∀ j, j < 1440 → o.2 205 j = M 205 j ∧ o.2 206 j = M 206 j) ∧ ∀ j, j ≠ 120 → o.2 207 j = M 207 j) ∧ o.1 = 0 ∧ Mo c (-1))) (I := fun Q : bM => ((∀ j, j < 1440 → Q 205 j = M 205 j ∧ Q 206 j = M 206 j) ∧ ∀ j, j ≠ 120 → Q 207 j = M 207 j) ∧ ∃ m : Nat, m ≤ 12 ∧ Q 207 120 = m ∧ Rt c Q (x_mi c m) ∧ (∀ j, j < m → Gm c j) ∧ ∀ j : Nat, j < m → Q 205 (1440 + (j : Int)) = vT c (x_mi c j) ∧ Q 206 (1440 + (j : Int)) = x_mu c j) (fun Q => (13 - Q 207 120).toNat) ?_ U ⟨⟨fun j _ => ⟨fU 205 j (by simp [b_ins]), fU 206 j (by simp [b_ins])⟩, fun j hj => by rw [u207, if_neg hj]⟩, 0, by decide, u120, Rt_k fU (by decide) hs, fun j hj => by omega, fun j hj => by omega⟩))
  · rcases o with Q | o
    · obtain ⟨z0, m, z1, z2, z3, z4, z5⟩ := z
      show b_wp (F_X12_readMarks_b171 Q) _
      unfold F_X12_readMarks_b171
      exact b_Ws ⟨z0, m, ⟨m, z1, z2, Or.inl ⟨z3, rfl⟩⟩, Or.inr ⟨by omega, rfl, z4, fun j hj => z5 j (by omega)⟩⟩
    · exact b_Ws ⟨z.1, -1, z.2.2, Or.inl ⟨rfl, z.2.1⟩⟩
  intro Q ⟨kp0, m, h1, h2, h3, h4, h5⟩
  obtain ⟨⟨q1, q2⟩, s5, s6, s3, s1, s4, s7⟩ := h3
  have h3 : Rt c Q (x_mi c m) := ⟨⟨q1, q2⟩, s5, s6, s3, s1, s4, s7⟩
  generalize hmm : (m : Int) = mm at *
  unfold F_X12_readMarks_s8
  rw [h2]
  refine b_Wi (fun a => b_Ws ⟨kp0, m, h1, h4, z_so_8.mp (s3.symm.trans a), by rw [h2]; exact hmm.symm, h5⟩) (fun a => b_Wl ?_)
  have k0 : kT c (x_mi c m) ≠ 0 := fun z => a (s3.trans (z_so_8.mpr z))
  have bad : ∀ (R : bM), ((∀ j, j < 1440 → R 205 j = M 205 j ∧ R 206 j = M 206 j) ∧ ∀ j, j ≠ 120 → R 207 j = M 207 j) → ¬ Gm c m → ((∀ j, j < 1440 → R 205 j = M 205 j ∧ R 206 j = M 206 j) ∧ ∀ j, j ≠ 120 → R 207 j = M 207 j) ∧ ((0 : Int), R).1 = 0 ∧ Mo c (-1) := fun R hR ng => ⟨hR, rfl, m, h1, h4, Or.inr ⟨k0, ng, rfl⟩⟩
  refine b_Wi (fun b => b_Wi (fun d => b_Ws (bad Q kp0 (fun z => by have := z.2.1; omega))) (fun d => ?_)) (fun b => b_Ws (bad Q kp0 (fun z => b (s3.trans (z_so_1.mpr z.1)))))
  have k1 : kT c (x_mi c m) = 1 := z_so_1.mp (s3.symm.trans b)
  have w1 : Q 11 10 = vT c (x_mi c m) := (s1 k1).1
  refine b_Wb (b_wp_m (fun o z => ?_) (b_loop_ind (P := Sum.elim (fun _ : Unit => ∀ j, j < m → vT c (x_mi c j) ≠ vT c (x_mi c m)) (Sum.elim (fun _ : bM => False) (Sum.elim (fun _ : bM => False) (fun o : Int × bM => o = (0, Q) ∧ ¬ Gm c m)))) (I := fun j : Int => (0 ≤ j ∧ j ≤ mm) ∧ ∀ i : Nat, (i : Int) < j → vT c (x_mi c i) ≠ vT c (x_mi c m)) (fun j => (mm - j).toNat) ?_ 0 ⟨by omega, fun i hi => by omega⟩))
  · rcases o with u | o | o | o
    · refine b_Winl ?_
      have dup : ∀ j, j < m → vT c (x_mi c j) ≠ vT c (x_mi c m) := z
      unfold F_X12_readMarks_b74
      rw [w1]
      refine b_Wg (by omega) (b_Wl (b_Wg (by omega) (b_Wl ?_)))
      generalize hV : b_up (b_up Q 205 (1440 + mm) (vT c (x_mi c m))) 206 (1440 + mm) 1 = V
      have fV : b_fr [(205, none), (206, none)] Q V := by subst hV; exact b_frA (b_frA b_fr_refl (by decide)) (by decide)
      have v205 : ∀ j, V 205 j = if j = 1440 + mm then vT c (x_mi c m) else Q 205 j := fun j => by subst hV; rw [b_upc (by decide), b_upJ]
      have v206 : ∀ j, V 206 j = if j = 1440 + mm then 1 else Q 206 j := fun j => by subst hV; rw [b_upJ, b_upc (by decide)]
      clear hV
      -- cells of a memory behind
      have keep : ∀ R : bM, (∀ j, R 205 j = if j = 1440 + mm then vT c (x_mi c m) else Q 205 j) → (∀ j, j ≠ 1440 + mm → R 206 j = Q 206 j) → (∀ j, R 207 j = Q 207 j) → ((∀ j, j < 1440 → R 205 j = M 205 j ∧ R 206 j = M 206 j) ∧ ∀ j, j ≠ 120 → R 207 j = M 207 j) := by
        intro R r5 r6 r7
        refine ⟨fun j hj => ?_, fun j hj => by rw [r7]; exact kp0.2 j hj⟩
        rw [r5, if_neg (by omega), r6 j (by omega)]
        exact kp0.1 j hj
      have b143 : ∀ (P : bM) (i : Nat), Rt c P i → (∀ j, P 205 j = if j = 1440 + mm then vT c (x_mi c m) else Q 205 j) → (∀ j, P 206 j = if j = 1440 + mm then x_mu c m else Q 206 j) → (∀ j, P 207 j = Q 207 j) → (Sg c i 59 ↔ Gm c m) → (Gm c m → i + 1 = x_mi c (m + 1)) → b_wp (F_X12_readMarks_b143 P) (Sum.elim (fun Q2 : bM => (((∀ j, j < 1440 → Q2 205 j = M 205 j ∧ Q2 206 j = M 206 j) ∧ ∀ j, j ≠ 120 → Q2 207 j = M 207 j) ∧ ∃ m : Nat, m ≤ 12 ∧ Q2 207 120 = m ∧ Rt c Q2 (x_mi c m) ∧ (∀ j, j < m → Gm c j) ∧ ∀ j : Nat, j < m → Q2 205 (1440 + (j : Int)) = vT c (x_mi c j) ∧ Q2 206 (1440 + (j : Int)) = x_mu c j) ∧ (13 - Q2 207 120).toNat < (13 - mm).toNat) (Sum.elim (fun Q : bM => ((∀ j, j < 1440 → Q 205 j = M 205 j ∧ Q 206 j = M 206 j) ∧ ∀ j, j ≠ 120 → Q 207 j = M 207 j) ∧ ∃ m : Nat, m ≤ 12 ∧ (∀ j, j < m → Gm c j) ∧ kT c (x_mi c m) = 0 ∧ Q 207 120 = m ∧ ∀ j : Nat, j < m → Q 205 (1440 + (j : Int)) = vT c (x_mi c j) ∧ Q 206 (1440 + (j : Int)) = x_mu c j) (fun o : Int × bM => ((∀ j, j < 1440 → o.2 205 j = M 205 j ∧ o.2 206 j = M 206 j) ∧ ∀ j, j ≠ 120 → o.2 207 j = M 207 j) ∧ o.1 = 0 ∧ Mo c (-1)))) := by
        intro P i rt r5 r6 r7 sg ix
        have e3 : P 11 3 = z_so (kT c i) (vT c i) := rt.2.2.2.1
        have kp1 := keep P r5 (fun j hj => by rw [r6, if_neg hj]) r7
        unfold F_X12_readMarks_b143
        rw [e3]
        refine b_Wi (fun g => ?_) (fun g => b_Ws (bad P kp1 (fun z => g (z_so_3.mpr (sg.mpr z)))))
        have gm := sg.mp (z_so_3.mp g)
        refine b_Wb (b_wp_m (fun T x => ?_) (t_scanT hB rt))
        obtain ⟨x1, x2⟩ := x
        rw [ix gm] at x2
        have t5 : ∀ j, T 205 j = P 205 j := fun j => x1 205 j (by simp [b_ins, W_sc])
        have t6 : ∀ j, T 206 j = P 206 j := fun j => x1 206 j (by simp [b_ins, W_sc])
        have t7 : ∀ j, T 207 j = P 207 j := fun j => x1 207 j (by simp [b_ins, W_sc])
        rw [t7, r7, h2]
        refine b_Wg (by omega) (b_Wl (b_Ws ⟨⟨⟨fun j hj => ?_, fun j hj => ?_⟩, m + 1, by have := gm.2.1; omega, ?_, Rt_k (W := [(207, none)]) (b_frA b_fr_refl (by decide)) (by decide) x2, fun j hj => ?_, fun j hj => ?_⟩, ?_⟩))
        · rw [b_upc (by decide), b_upc (by decide), t5, t6]; exact kp1.1 j hj
        · rw [b_upi hj, t7]; exact kp1.2 j hj
        · rw [b_ups]; omega
        · by_cases e : j = m
          · rw [e]; exact gm
          · exact h4 j (by omega)
        · rw [b_upc (by decide), b_upc (by decide), t5, t6, r5, r6]
          by_cases e : j = m
          · rw [if_pos (by omega), if_pos (by omega), e]; exact ⟨rfl, rfl⟩
          · rw [if_neg (by omega), if_neg (by omega)]; exact h5 j (by omega)
        · rw [b_ups]; omega
      refine b_Wb (b_wp_m (fun P x => ?_) (t_scanT hB (Rt_k fV (by decide) h3)))
      obtain ⟨x1, x2⟩ := x
      have p5 : ∀ j, P 205 j = if j = 1440 + mm then vT c (x_mi c m) else Q 205 j := fun j => by rw [x1 205 j (by simp [b_ins, W_sc])]; exact v205 j
      have p6 : ∀ j, P 206 j = if j = 1440 + mm then 1 else Q 206 j := fun j => by rw [x1 206 j (by simp [b_ins, W_sc])]; exact v206 j
      have p7 : ∀ j, P 207 j = Q 207 j := fun j => by rw [x1 207 j (by simp [b_ins, W_sc]), fV 207 j (by simp [b_ins])]
      have e3 : P 11 3 = z_so (kT c (x_mi c m + 1)) (vT c (x_mi c m + 1)) := x2.2.2.2.1
      rw [e3]
      refine b_Wi (fun g => ?_) (fun g => ?_)
      · have ym : Me c m := z_so_4.mp g
        refine b_Wb (b_wp_m (fun R y => ?_) (t_scanT hB x2))
        obtain ⟨y1, y2⟩ := y
        have r5 : ∀ j, R 205 j = if j = 1440 + mm then vT c (x_mi c m) else Q 205 j := fun j => by rw [y1 205 j (by simp [b_ins, W_sc])]; exact p5 j
        have r6 : ∀ j, R 206 j = if j = 1440 + mm then 1 else Q 206 j := fun j => by rw [y1 206 j (by simp [b_ins, W_sc])]; exact p6 j
        have r7 : ∀ j, R 207 j = Q 207 j := fun j => by rw [y1 207 j (by simp [b_ins, W_sc])]; exact p7 j
        have e4 : R 11 3 = z_so (kT c (x_mi c m + 2)) (vT c (x_mi c m + 2)) := y2.2.2.2.1
        rw [e4]
        refine b_Wi (fun g2 => ?_) (fun g2 => b_Ws (bad R (keep R r5 (fun j hj => by rw [r6, if_neg hj]) r7) (fun z => ?_)))
        · have k2 : kT c (x_mi c m + 2) = 2 := z_so_2.mp g2
          have n7 : R 11 7 = vT c (x_mi c m + 2) := y2.2.2.2.2.2.2 k2
          rw [n7]
          refine b_Wg (by omega) (b_Wl ?_)
          generalize hX : b_up R 206 (1440 + mm) (vT c (x_mi c m + 2)) = X
          have fX : b_fr [(206, none)] R X := by subst hX; exact b_frA b_fr_refl (by decide)
          have x206 : ∀ j, X 206 j = if j = 1440 + mm then vT c (x_mi c m + 2) else R 206 j := fun j => by subst hX; exact b_upJ
          clear hX
          refine b_Wb (b_wp_m (fun T w => ?_) (t_scanT hB (Rt_k fX (by decide) y2)))
          obtain ⟨w1', w2'⟩ := w
          refine b143 T (x_mi c m + 3) w2' (fun j => ?_) (fun j => ?_) (fun j => ?_) ⟨fun z => ⟨k1, by omega, dup, Or.inl ⟨ym, k2, z⟩⟩, fun z => ?_⟩ (fun _ => (x_mi_e ym).symm)
          · rw [w1' 205 j (by simp [b_ins, W_sc]), fX 205 j (by simp [b_ins])]; exact r5 j
          · rw [w1' 206 j (by simp [b_ins, W_sc]), x206, r6]
            unfold x_mu
            rw [if_pos ym]
            by_cases e : j = 1440 + mm
            · rw [if_pos e, if_pos e]
            · rw [if_neg e, if_neg e, if_neg e]
          · rw [w1' 207 j (by simp [b_ins, W_sc]), fX 207 j (by simp [b_ins])]; exact r7 j
          · rcases z.2.2.2 with y | y
            · exact y.2.2
            · exact absurd ym y.1
        · rcases z.2.2.2 with y | y
          · exact g2 (z_so_2.mpr y.2.1)
          · exact y.1 ym
      · have nm : ¬ Me c m := fun z => g (z_so_4.mpr z)
        refine b143 P (x_mi c m + 1) x2 p5 (fun j => ?_) p7 ⟨fun z => ⟨k1, by omega, dup, Or.inr ⟨nm, z⟩⟩, fun z => ?_⟩ (fun _ => (x_mi_n nm).symm)
        · rw [p6]; unfold x_mu; rw [if_neg nm]
        · rcases z.2.2.2 with y | y
          · exact absurd y.1 nm
          · exact y.2
    · exact z.elim
    · exact z.elim
    · refine b_Ws ?_
      rw [z.1]
      exact bad Q kp0 z.2
  · intro j ⟨g1, g2⟩
    unfold F_X12_readMarks_s43
    rw [w1]
    refine b_Wi (fun e => b_Ws (fun i hi => g2 i (by omega))) (fun e => b_Wg (by omega) ?_)
    have dj := (h5 j.toNat (by omega)).1
    rw [show ((j.toNat : Nat) : Int) = j by omega] at dj
    rw [dj]
    refine b_Wi (fun e2 => b_Ws ⟨rfl, fun z => z.2.2.1 j.toNat (by omega) (j_cmp0.mp e2)⟩) (fun e2 => b_Wg (by omega) (b_Ws ⟨⟨by omega, fun i hi => ?_⟩, by omega⟩))
    by_cases ei : i = j.toNat
    · rw [ei]; exact fun z => e2 (j_cmp0.mpr z)
    · exact g2 i (by omega)
