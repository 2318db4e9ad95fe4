/-- where MARK m begins, whether it tells a number, and which -/
def x_mi (c : Int → Int) : Nat → Nat
  | 0 => 0
  | m + 1 => if kT c (x_mi c m + 1) = 3 ∧ vT c (x_mi c m + 1) = 61 then x_mi c m + 4 else x_mi c m + 2
abbrev Me (c : Int → Int) (m : Nat) : Prop := kT c (x_mi c m + 1) = 3 ∧ vT c (x_mi c m + 1) = 61
def x_mu (c : Int → Int) (m : Nat) : Int := if Me c m then vT c (x_mi c m + 2) else 1
theorem x_mi_e {c : Int → Int} {m : Nat} (h : Me c m) : x_mi c (m + 1) = x_mi c m + 4 := if_pos h
theorem x_mi_n {c : Int → Int} {m : Nat} (h : ¬ Me c m) : x_mi c (m + 1) = x_mi c m + 2 := if_neg h
theorem x_mi_r {c : Int → Int} : ∀ m : Nat, x_mi c m ≤ 4 * m := by
  intro m
  induction m with
  | zero => exact Nat.le_refl _
  | succ m ih =>
    by_cases h : Me c m
    · rw [x_mi_e h]; omega
    · rw [x_mi_n h]; omega
/-- MARK m stands on the tape -/
def Gm (c : Int → Int) (m : Nat) : Prop := kT c (x_mi c m) = 1 ∧ m < 12 ∧ (∀ j, j < m → vT c (x_mi c j) ≠ vT c (x_mi c m)) ∧ ((Me c m ∧ kT c (x_mi c m + 2) = 2 ∧ Sg c (x_mi c m + 3) 59) ∨ (¬ Me c m ∧ Sg c (x_mi c m + 1) 59))
def Mo (c : Int → Int) (n : Int) : Prop := ∃ m : Nat, m ≤ 12 ∧ (∀ j, j < m → Gm c j) ∧ ((kT c (x_mi c m) = 0 ∧ n = m) ∨ (kT c (x_mi c m) ≠ 0 ∧ ¬ Gm c m ∧ n = -1))
theorem Mo_u {c : Int → Int} {n n2 : Int} (h : Mo c n) (h2 : Mo c n2) : n = n2 := by
  obtain ⟨m, m1, m2, m3⟩ := h
  obtain ⟨k, k1, k2, k3⟩ := h2
  have no : ∀ {a b : Nat} {n : Int}, a < b → (∀ j, j < b → Gm c j) → ((kT c (x_mi c a) = 0 ∧ n = a) ∨ (kT c (x_mi c a) ≠ 0 ∧ ¬ Gm c a ∧ n = -1)) → False := by
    intro a b n ab hB hh
    have g := hB a ab
    rcases hh with hh | hh
    · have := g.1
      have := hh.1
      omega
    · exact hh.2.1 g
  by_cases q : m < k
  · exact (no q k2 m3).elim
  · by_cases q2 : k < m
    · exact (no q2 m2 k3).elim
    · have e : m = k := by omega
      subst e
      rcases m3 with a | a
      · rcases k3 with b | b
        · exact a.2.trans b.2.symm
        · exact absurd a.1 b.1
      · rcases k3 with b | b
        · exact absurd b.1 a.1
        · exact a.2.2.trans b.2.2.symm
theorem Cs_k {W : bW} {c : Int → Int} {M N : bM} {i : Nat} (f : b_fr W M N) (d : b_dis W [(1, some 2), (1, some 3), (1, some 4), (1, some 7)] = true) (h : Cs c M i) : Cs c N i := by
  have k := b_kp1 f d
  unfold Cs
  rw [k 1 7 rfl, k 1 2 rfl, k 1 3 rfl, k 1 4 rfl]
  exact h
def W_mrk : bW := [(1, some 2), (1, some 3), (1, some 4), (1, some 7), (5, some 16), (122, none), (123, none)]
/-- the class reads one MARK -/
theorem t_readMark {Q : bM} {c : Int → Int} {n : Int} {m : Nat} (hB : z_B c n) (hR : Cr c n Q) (hs : Cs c Q (x_mi c m)) (hm : m ≤ 12) (h16 : Q 5 16 = m) (hd : ∀ j : Nat, j < m → Q 122 j = vT c (x_mi c j)) : b_wp (F_X7_readMark_1 Q) (fun o => (o.1 = 0 ∧ ¬ Gm c m) ∨ (o.1 = 1 ∧ Gm c m ∧ b_fr W_mrk Q o.2 ∧ Cr c n o.2 ∧ Cs c o.2 (x_mi c (m + 1)) ∧ o.2 5 16 = m + 1 ∧ ∀ j, o.2 122 j = (if j = (m : Int) then vT c (x_mi c m) else Q 122 j) ∧ o.2 123 j = (if j = (m : Int) then x_mu c m else Q 123 j))) := by
  have xr := x_mi_r (c := c) m
  obtain ⟨s7, s2, s3, s4⟩ := hs
  have hs : Cs c Q (x_mi c m) := ⟨s7, s2, s3, s4⟩
  generalize hmm : (m : Int) = mm at *
  unfold F_X7_readMark_1
  refine b_Wi (fun a => b_Wi (fun b => ?_) (fun b => b_Ws (Or.inl ⟨rfl, fun z => by have := z.2.1; omega⟩))) (fun a => b_Ws (Or.inl ⟨rfl, fun z => a (s2.trans z.1)⟩))
  have k1 : kT c (x_mi c m) = 1 := s2.symm.trans a
  have v4 : Q 1 4 = vT c (x_mi c m) := s4 (by rw [show t_k c (t_at c (x_mi c m)) = 1 from k1]; decide)
  refine b_Wb (b_wp_m (fun o z => ?_) (b_loop_ind (P := Sum.elim (fun _ : Unit => ∀ j, j < m → vT c (x_mi c j) ≠ vT c (x_mi c m)) (fun o : Int × bM => o.1 = 0 ∧ ¬ Gm c m)) (I := fun j : Int => (0 ≤ j ∧ j ≤ mm) ∧ ∀ i : Nat, (i : Int) < j → vT c (x_mi c i) ≠ vT c (x_mi c m)) (fun j => (mm - j).toNat) ?_ 0 ⟨by omega, fun i hi => by omega⟩))
  · rcases o with u | o
    · show b_wp (F_X7_readMark_1_b51 Q) _
      have dup : ∀ j, j < m → vT c (x_mi c j) ≠ vT c (x_mi c m) := z
      unfold F_X7_readMark_1_b51
      rw [h16, v4]
      refine b_Wg (by omega) (b_Wl ?_)
      rw [b_upc (by decide), h16]
      refine b_Wg (by omega) (b_Wl ?_)
      generalize hU : b_up (b_up Q 122 mm (vT c (x_mi c m))) 123 mm 1 = U
      have fU : b_fr [(122, none), (123, none)] Q U := by subst hU; exact b_frA (b_frA b_fr_refl (by decide)) (by decide)
      have u122 : ∀ j, U 122 j = if j = mm then vT c (x_mi c m) else Q 122 j := fun j => by subst hU; rw [b_upc (by decide), b_upJ]
      have u123 : ∀ j, U 123 j = if j = mm then 1 else Q 123 j := fun j => by subst hU; rw [b_upJ, b_upc (by decide)]
      clear hU
      -- how it ends
      have b118 : ∀ (P : bM) (i : Nat), i ≤ 60 → b_fr W_mrk Q P → P 5 16 = mm → Cr c n P → Cs c P i → (∀ j, P 122 j = (if j = mm then vT c (x_mi c m) else Q 122 j) ∧ P 123 j = (if j = mm then x_mu c m else Q 123 j)) → (Sg c i 59 ↔ Gm c m) → (Gm c m → i + 1 = x_mi c (m + 1)) → b_wp (F_X7_readMark_1_b118 P) (fun o => (o.1 = 0 ∧ ¬ Gm c m) ∨ (o.1 = 1 ∧ Gm c m ∧ b_fr W_mrk Q o.2 ∧ Cr c n o.2 ∧ Cs c o.2 (x_mi c (m + 1)) ∧ o.2 5 16 = mm + 1 ∧ ∀ j, o.2 122 j = (if j = mm then vT c (x_mi c m) else Q 122 j) ∧ o.2 123 j = (if j = mm then x_mu c m else Q 123 j))) := by
        intro P i hi f p16 cr cs dr sg ix
        unfold F_X7_readMark_1_b118
        rw [p16]
        refine b_Wg (by omega) (b_Wl ?_)
        generalize hV : b_up P 5 16 (mm + 1) = V
        have fV : b_fr [(5, some 16)] P V := by subst hV; exact b_frF b_fr_refl (by decide)
        have v16 : V 5 16 = mm + 1 := by subst hV; exact b_ups
        clear hV
        have csV : Cs c V i := Cs_k fV (by decide) cs
        obtain ⟨r7, r2, r3, r4⟩ := csV
        have csV : Cs c V i := ⟨r7, r2, r3, r4⟩
        have es : (V 1 2 = 3 ∧ V 1 4 = 59) ↔ Sg c i 59 := by
          refine ⟨fun z => ?_, fun z => ?_⟩
          · have k3 : t_k c (t_at c i) = 3 := r2.symm.trans z.1
            exact ⟨k3, (r4 (by rw [k3]; decide)).symm.trans z.2⟩
          · have k3 : t_k c (t_at c i) = 3 := z.1
            exact ⟨r2.trans k3, (r4 (by rw [k3]; decide)).trans z.2⟩
        refine b_We e_isSign (b_Wb (b_wp_m (fun R x => ?_) (t_stepN hB (Cr_k fV (by decide) cr) csV (by omega))))
        obtain ⟨x1, x2, x3⟩ := x
        by_cases g : V 1 2 = 3 ∧ V 1 4 = 59
        · have gm := sg.mp (es.mp g)
          rw [ix gm] at x3
          refine b_Wg (Or.inr (b_01_1.mpr g)) (b_Ws (Or.inr ⟨b_01_1.mpr g, gm, b_fr_tr f (b_fr_tr (b_fr_mo (by decide) fV) (b_fr_mo (by decide) x1)), x2, x3, ?_, fun j => ?_⟩))
          · dsimp only; rw [x1 5 16 (by decide), v16]
          · dsimp only
            rw [x1 122 j (by simp [b_ins, W_st]), x1 123 j (by simp [b_ins, W_st]), fV 122 j (by simp [b_ins]), fV 123 j (by simp [b_ins])]
            exact dr j
        · exact b_Wg (Or.inl (b_01_0.mpr g)) (b_Ws (Or.inl ⟨b_01_0.mpr g, fun z => g (es.mpr (sg.mpr z))⟩))
      refine b_Wb (b_wp_m (fun P x => ?_) (t_stepN hB (Cr_k fU (by decide) hR) (Cs_k fU (by decide) hs) (by omega)))
      obtain ⟨x1, x2, x3⟩ := x
      obtain ⟨r7, r2, r3, r4⟩ := x3
      have x3 : Cs c P (x_mi c m + 1) := ⟨r7, r2, r3, r4⟩
      have fP : b_fr W_mrk Q P := b_fr_tr (b_fr_mo (by decide) fU) (b_fr_mo (by decide) x1)
      have p16 : P 5 16 = mm := by rw [x1 5 16 (by decide), fU 5 16 (by decide)]; exact h16
      have p122 : ∀ j, P 122 j = if j = mm then vT c (x_mi c m) else Q 122 j := fun j => by rw [x1 122 j (by simp [b_ins, W_st])]; exact u122 j
      have p123 : ∀ j, P 123 j = if j = mm then 1 else Q 123 j := fun j => by rw [x1 123 j (by simp [b_ins, W_st])]; exact u123 j
      have em : (P 1 2 = 3 ∧ P 1 4 = 61) ↔ Me c m := by
        refine ⟨fun z => ?_, fun z => ?_⟩
        · have k3 : t_k c (t_at c (x_mi c m + 1)) = 3 := r2.symm.trans z.1
          exact ⟨k3, (r4 (by rw [k3]; decide)).symm.trans z.2⟩
        · have k3 : t_k c (t_at c (x_mi c m + 1)) = 3 := z.1
          exact ⟨r2.trans k3, (r4 (by rw [k3]; decide)).trans z.2⟩
      refine b_We e_isSign (b_Wi (fun g => ?_) (fun g => ?_))
      · rw [b_01_0] at g
        have nm : ¬ Me c m := fun z => g (em.mpr z)
        refine b118 P (x_mi c m + 1) (by omega) fP p16 x2 x3 (fun j => ⟨p122 j, ?_⟩) ⟨fun z => ⟨k1, by omega, dup, Or.inr ⟨nm, z⟩⟩, fun z => ?_⟩ (fun _ => (x_mi_n nm).symm)
        · rw [p123]; unfold x_mu; rw [if_neg nm]
        · rcases z.2.2.2 with y | y
          · exact absurd y.1 nm
          · exact y.2
      · rw [b_01_0] at g
        have ym : Me c m := em.mp (Decidable.of_not_not g)
        refine b_Wb (b_wp_m (fun R y => ?_) (t_stepN hB x2 x3 (by omega)))
        obtain ⟨y1, y2, y3⟩ := y
        obtain ⟨t7, t2, t3, t4⟩ := y3
        have y3 : Cs c R (x_mi c m + 2) := ⟨t7, t2, t3, t4⟩
        have r16 : R 5 16 = mm := by rw [y1 5 16 (by decide)]; exact p16
        refine b_Wi (fun g2 => ?_) (fun g2 => b_Ws (Or.inl ⟨rfl, fun z => ?_⟩))
        · have k2 : kT c (x_mi c m + 2) = 2 := t2.symm.trans g2
          have v2 : R 1 4 = vT c (x_mi c m + 2) := t4 (by rw [show t_k c (t_at c (x_mi c m + 2)) = 2 from k2]; decide)
          have vr : 0 ≤ vT c (x_mi c m + 2) ∧ vT c (x_mi c m + 2) ≤ 9999 := t_v_2 hB k2
          have en : F_X10_number R = some (vT c (x_mi c m + 2)) := by
            refine b_eqn ?_
            unfold F_X10_number
            rw [v2]
            exact b_Wg (by omega) (b_Ws rfl)
          refine b_We en ?_
          rw [r16]
          refine b_Wg (by omega) (b_Wl ?_)
          generalize hV : b_up R 123 mm (vT c (x_mi c m + 2)) = V
          have fV : b_fr [(123, none)] R V := by subst hV; exact b_frA b_fr_refl (by decide)
          have v123 : ∀ j, V 123 j = if j = mm then vT c (x_mi c m + 2) else R 123 j := fun j => by subst hV; exact b_upJ
          clear hV
          refine b_Wb (b_wp_m (fun T w => ?_) (t_stepN hB (Cr_k fV (by decide) y2) (Cs_k fV (by decide) y3) (by omega)))
          obtain ⟨w1, w2, w3⟩ := w
          refine b118 T (x_mi c m + 3) (by omega) (b_fr_tr fP (b_fr_tr (b_fr_mo (by decide) y1) (b_fr_tr (b_fr_mo (by decide) fV) (b_fr_mo (by decide) w1)))) ?_ w2 w3 (fun j => ⟨?_, ?_⟩) ⟨fun z => ⟨k1, by omega, dup, Or.inl ⟨ym, k2, z⟩⟩, fun z => ?_⟩ (fun _ => (x_mi_e ym).symm)
          · rw [w1 5 16 (by decide), fV 5 16 (by decide)]; exact r16
          · rw [w1 122 j (by simp [b_ins, W_st]), fV 122 j (by simp [b_ins]), y1 122 j (by simp [b_ins, W_st])]; exact p122 j
          · rw [w1 123 j (by simp [b_ins, W_st]), v123, y1 123 j (by simp [b_ins, W_st]), p123]
            unfold x_mu
            rw [if_pos ym]
            by_cases e : j = mm
            · rw [if_pos e, if_pos e]
            · rw [if_neg e, if_neg e, if_neg e]
          · rcases z.2.2.2 with y | y
            · exact y.2.2
            · exact absurd ym y.1
        · rcases z.2.2.2 with y | y
          · exact g2 (t2.trans y.2.1)
          · exact y.1 ym
    · exact b_Ws (Or.inl z)
  · intro j ⟨g1, g2⟩
    unfold F_X7_readMark_1_s21
    rw [h16, v4]
    refine b_Wi (fun e => b_Ws (fun i hi => g2 i (by omega))) (fun e => b_Wg (by omega) ?_)
    have dj := hd j.toNat (by omega)
    rw [show ((j.toNat : Nat) : Int) = j by omega] at dj
    rw [dj]
    refine b_Wi (fun e2 => b_Ws ⟨rfl, fun z => z.2.2.1 j.toNat (by omega) (j_cmp0.mp e2)⟩) (fun e2 => b_Wg (by omega) (b_Ws ⟨⟨by omega, fun i hi => ?_⟩, by omega⟩))
    by_cases ei : i = j.toNat
    · rw [ei]; exact fun z => e2 (j_cmp0.mpr z)
    · exact g2 i (by omega)
/-- the class reads MARKS -/
theorem t_readMarks {M : bM} (hT : R_tape M) : b_wp (F_X7_readMarks_1 M) (fun o => b_fr W_X7_readMarks_1 M o.2 ∧ ∃ v, Mo (cb M) v ∧ ((v = -1 ∧ o.1 = -1) ∨ ((0 ≤ v ∧ v ≤ 12) ∧ o.1 = (if M 5 0 < 120 then 0 else -3) ∧ o.2 5 16 = v ∧ ∀ j : Nat, (j : Int) < v → o.2 122 j = vT (cb M) (x_mi (cb M) j) ∧ o.2 123 j = x_mu (cb M) j))) := by
  refine b_wl_wp (w_X7_readMarks_1 b_fr_refl) ?_
  have hB := cb_B hT
  unfold F_X7_readMarks_1
  refine b_Wb (b_wp_m (fun N y => ?_) (t_rewind hT))
  obtain ⟨y1, y2, y3⟩ := y
  generalize cb M = c at *
  generalize hn : M 1 1 = n at *
  refine b_Wl ?_
  generalize hU : b_up N 5 16 0 = U
  have fU : b_fr [(5, some 16)] N U := by subst hU; exact b_frF b_fr_refl (by decide)
  have u16 : U 5 16 = 0 := by subst hU; exact b_ups
  clear hU
  refine b_Wb (b_wp_m (fun o z => ?_) (b_loop_ind (P := Sum.elim (fun Q : bM => Q 5 0 = M 5 0 ∧ ∃ m : Nat, m ≤ 12 ∧ (∀ j, j < m → Gm c j) ∧ kT c (x_mi c m) = 0 ∧ Q 5 16 = m ∧ ∀ j : Nat, j < m → Q 122 j = vT c (x_mi c j) ∧ Q 123 j = x_mu c j) (fun o : Int × bM => o.1 = -1 ∧ Mo c (-1))) (I := fun t : Int × bM => ∃ m : Nat, t.1 = m ∧ m ≤ 12 ∧ Cr c n t.2 ∧ Cs c t.2 (x_mi c m) ∧ t.2 5 16 = m ∧ t.2 5 0 = M 5 0 ∧ (∀ j, j < m → Gm c j) ∧ ∀ j : Nat, j < m → t.2 122 j = vT c (x_mi c j) ∧ t.2 123 j = x_mu c j) (fun t => (13 - t.1).toNat) ?_ (0, U) ⟨0, rfl, by decide, Cr_k fU (by decide) y2, Cs_k fU (by decide) y3, u16, by dsimp only; rw [fU 5 0 (by decide), y1 5 0 (by decide)], fun j hj => by omega, fun j hj => by omega⟩))
  · rcases o with Q | o
    · obtain ⟨z0, m, z1, z2, z3, z4, z5⟩ := z
      show b_wp (F_X7_readMarks_1_b41 Q) _
      unfold F_X7_readMarks_1_b41
      rw [z0]
      refine b_Wi (fun a => b_Ws ⟨m, ⟨m, z1, z2, Or.inl ⟨z3, rfl⟩⟩, Or.inr ⟨by omega, ?_, z4, fun j hj => z5 j (by omega)⟩⟩) (fun a => b_Ws ⟨m, ⟨m, z1, z2, Or.inl ⟨z3, rfl⟩⟩, Or.inr ⟨by omega, ?_, z4, fun j hj => z5 j (by omega)⟩⟩)
      · rw [if_pos a]
      · rw [if_neg a]
    · exact b_Ws ⟨-1, z.2, Or.inl ⟨rfl, z.1⟩⟩
  intro ⟨v, Q⟩ ⟨m, h1, h2, h3, h4, h5, h6, h7, h8⟩
  dsimp only at h1 h3 h4 h5 h6 h8 ⊢
  unfold F_X7_readMarks_1_s11
  have k0 : Q 1 2 = kT c (x_mi c m) := h4.2.1
  rw [k0]
  refine b_Wf (by omega) (b_Wi (fun a => b_Ws ⟨h6, m, h2, h7, a, h5, h8⟩) (fun a => b_Wb (b_wp_m (fun o z => ?_) (t_readMark hB h3 h4 h2 h5 (fun j hj => (h8 j hj).1)))))
  obtain ⟨x, P⟩ := o
  dsimp only at z
  rcases z with ⟨z1, z2⟩ | ⟨z1, z2, z3, z4, z5, z6, z7⟩
  · exact b_Wtwo (b_Wt z1 (b_Ws ⟨rfl, m, h2, h7, Or.inr ⟨a, z2, rfl⟩⟩))
  · have m12 := z2.2.1
    refine b_Wtwo (b_Wf (by dsimp only; omega) (b_Wg (by omega) (b_Ws ⟨⟨m + 1, by dsimp only; omega, by omega, z4, z5, by dsimp only; rw [z6]; omega, ?_, fun j hj => ?_, fun j hj => ?_⟩, by dsimp only; omega⟩)))
    · dsimp only; rw [z3 5 0 (by decide)]; exact h6
    · by_cases e : j = m
      · rw [e]; exact z2
      · exact h7 j (by omega)
    · dsimp only
      rw [(z7 j).1, (z7 j).2]
      by_cases e : j = m
      · rw [if_pos (by omega), if_pos (by omega), e]; exact ⟨rfl, rfl⟩
      · rw [if_neg (by omega), if_neg (by omega)]; exact h8 j (by omega)
