/-- lines are as they were told, or CLOSED -/
def R_bd (M : bM) : Prop := ∀ l, 0 ≤ l → l < 60 → (∀ i, 0 ≤ i → i < M 94 l → 1 ≤ M 179 (12 * l + i)) ∧ ((∀ i, 0 ≤ i → i < M 94 l → M 179 (12 * l + i) ≤ 60) ∨ (x_ld M l 0 (M 94 l).toNat = 0 ∧ x_ld M l 1 (M 94 l).toNat = 0 ∧ ∀ i, 0 ≤ i → i < M 94 l → M 179 (12 * l + i) ≤ 1500))
def S_bd : bW := [(94, none), (178, none), (179, none)]
theorem x_ld_c {M N : bM} {l w : Int} : ∀ k : Nat, (∀ i : Nat, i < k → N 178 (12 * l + i) = M 178 (12 * l + i) ∧ N 179 (12 * l + i) = M 179 (12 * l + i)) → x_ld N l w k = x_ld M l w k := by
  intro k
  induction k with
  | zero => intro _; rfl
  | succ k ih =>
    intro h
    have e := h k (by omega)
    show x_ld N l w k + _ = x_ld M l w k + _
    rw [ih (fun i hi => h i (by omega)), e.1, e.2]
theorem R_bd_k {M N : bM} (h : ∀ c i, b_ins S_bd c i = true → N c i = M c i) (hR : R_bd M) : R_bd N := by
  intro l l0 l1
  rw [h 94 l rfl, x_ld_c _ (fun i _ => ⟨h 178 _ rfl, h 179 _ rfl⟩), x_ld_c _ (fun i _ => ⟨h 178 _ rfl, h 179 _ rfl⟩), show N 179 = M 179 from funext fun i => h 179 i rfl]
  exact hR l l0 l1
theorem Bo_r {c : Int → Int} {n f p : Int} (h : Bo c n f p) : n = -1 ∨ ((1 ≤ n ∧ n ≤ 12) ∧ ∀ j : Nat, (j : Int) < n → Bl c j) := by
  obtain ⟨m, m1, m2, m3 | m3⟩ := h
  · exact Or.inr ⟨by have := m3.1; have := m3.2.2.1; omega, fun j hj => m2 j (by have := m3.2.2.1; omega)⟩
  · exact Or.inl m3.2.1
theorem t_cpB {P : bM} {l : Int} (hl : 0 ≤ l ∧ l < 60) : b_wp (b_loop (fun t : Int × bM => F_X12_bounds_s81 l t.1 t.2) (0, P)) (fun O => (∀ c j, c ≠ 178 → c ≠ 179 → O c j = P c j) ∧ ∀ j, j < 720 → O 178 j = (if 12 * l ≤ j ∧ j < 12 * l + 12 then P 178 (720 + (j - 12 * l)) else P 178 j) ∧ O 179 j = (if 12 * l ≤ j ∧ j < 12 * l + 12 then P 179 (720 + (j - 12 * l)) else P 179 j)) := by
  refine b_loop_ind (I := fun s : Int × bM => (0 ≤ s.1 ∧ s.1 ≤ 12) ∧ (∀ c j, c ≠ 178 → c ≠ 179 → s.2 c j = P c j) ∧ (∀ j, 720 ≤ j → s.2 178 j = P 178 j ∧ s.2 179 j = P 179 j) ∧ ∀ j, j < 720 → s.2 178 j = (if 12 * l ≤ j ∧ j < 12 * l + s.1 then P 178 (720 + (j - 12 * l)) else P 178 j) ∧ s.2 179 j = (if 12 * l ≤ j ∧ j < 12 * l + s.1 then P 179 (720 + (j - 12 * l)) else P 179 j)) (fun s => (12 - s.1).toNat) ?_ (0, P) ⟨by dsimp only; omega, fun _ _ _ _ => rfl, fun _ _ => ⟨rfl, rfl⟩, fun j _ => ⟨by dsimp only; rw [if_neg (by omega)], by dsimp only; rw [if_neg (by omega)]⟩⟩
  intro ⟨v, Q⟩ ⟨h1, h2, h3, h4⟩
  dsimp only at h1 h2 h3 h4 ⊢
  unfold F_X12_bounds_s81
  refine b_Wi (fun q => b_Ws ⟨h2, fun j hj => ?_⟩) (fun q => b_Wg (by omega) (b_Wl ?_))
  · have e : v = 12 := by omega
    rw [e] at h4
    exact h4 j hj
  refine b_Wg (by omega) (b_Wl (b_Wg (by omega) (b_Ws ⟨⟨by dsimp only; omega, fun c j c1 c2 => ?_, fun j hj => ⟨?_, ?_⟩, fun j hj => ⟨?_, ?_⟩⟩, by dsimp only; omega⟩)))
  · dsimp only
    rw [b_upc c2, b_upc c1]; exact h2 c j c1 c2
  · dsimp only
    rw [b_upc (by decide), b_upi (by omega)]; exact (h3 j hj).1
  · dsimp only
    rw [b_upi (by omega), b_upc (by decide)]; exact (h3 j hj).2
  · dsimp only
    rw [b_upc (by decide), b_upJ]
    by_cases e : j = 12 * l + v
    · rw [if_pos e, if_pos (by omega), (h3 (720 + v) (by omega)).1, show 720 + (j - 12 * l) = 720 + v by omega]
    · rw [if_neg e, (h4 j hj).1]
      by_cases e2 : 12 * l ≤ j ∧ j < 12 * l + v
      · rw [if_pos e2, if_pos (by omega)]
      · rw [if_neg e2, if_neg (by omega)]
  · dsimp only
    rw [b_upJ, b_upc (by decide), b_upc (by decide)]
    by_cases e : j = 12 * l + v
    · rw [if_pos e, if_pos (by omega), (h3 (720 + v) (by omega)).2, show 720 + (j - 12 * l) = 720 + v by omega]
    · rw [if_neg e, (h4 j hj).2]
      by_cases e2 : 12 * l ≤ j ∧ j < 12 * l + v
      · rw [if_pos e2, if_pos (by omega)]
      · rw [if_neg e2, if_neg (by omega)]
/-- the reference takes the tape -/
theorem t_take {M : bM} {c : Int → Int} {n : Int} (hB : z_B c n) (h162 : ∀ p, (if 0 ≤ p ∧ p < M 11 1 then i_and (M 162 p) 255 else -1) = c p) (h1 : M 11 1 ≤ 1000) : b_wp (F_X12_take M) (fun N => b_fr W_X12_take M N ∧ N 11 1 = 0 ∧ rb N = c ∧ N 11 2 ≤ 1000 ∧ Rs c N 0) := by
  refine b_wl_wp (w_X12_take b_fr_refl) ?_
  unfold F_X12_take
  refine b_Wl (b_Wl (b_Wl ?_))
  generalize hU : b_up (b_up (b_up M 11 2 (M 11 1)) 11 1 0) 11 6 0 = U
  have u1 : U 11 1 = 0 := by subst hU; rw [b_upi (by decide), b_ups]
  have u2 : U 11 2 = M 11 1 := by subst hU; rw [b_upi (by decide), b_upi (by decide), b_ups]
  have u6 : U 11 6 = 0 := by subst hU; exact b_ups
  have u162 : U 162 = M 162 := by subst hU; exact funext fun i => by rw [b_upc (by decide), b_upc (by decide), b_upc (by decide)]
  clear hU
  have ru : rb U = c := by
    unfold rb
    rw [u2, u162]
    exact funext h162
  refine b_Wb (b_wp_m (fun N y => b_Ws ⟨?_, ?_, ?_, y.2⟩) (t_scan (i := 0) hB ru (by omega) u6))
  · rw [y.1 11 1 (by decide)]; exact u1
  · rw [rb_k y.1]; exact ru
  · rw [y.1 11 2 (by decide)]; omega
theorem op_bounds {l x y : Int} {M : bM} (hL : R_lots M) (hS : R_shape M) (hb : R_bd M) (hT : R_tape M) (hF : R_fault M) (hw : R_ways M) : b_wp (F_X11_bounds l x y M) (fun o => b_wp (F_X12_bounds l x y o.2) (fun o2 => o.1 = o2.1 ∧ R_shape o2.2 ∧ R_bd o2.2 ∧ R_tape o2.2 ∧ R_fault o2.2)) := by
  have l1 := hL.1
  have hB := cb_B hT
  have f1 := hF.1
  have f2 := hF.2
  -- the reference takes the tape in every case
  have tk : ∀ P : bM, P 11 1 = M 11 1 → P 162 = M 162 → b_wp (F_X12_take P) (fun N => b_fr W_X12_take P N ∧ N 11 1 = 0 ∧ rb N = cb M ∧ N 11 2 ≤ 1000 ∧ Rs (cb M) N 0) := by
    intro P p1 p2
    refine t_take hB (fun p => ?_) (by rw [p1, hT.1]; exact hT.2.2.1)
    rw [p1, p2, hT.1, hT.2.2.2.1]
    rfl
  have tape : ∀ N : bM, N 11 1 = 0 → N 1 1 = 0 → N 72 = M 72 → N 162 = M 162 → R_tape N := by
    intro N a1 a2 a3 a4
    refine ⟨by rw [a1, a2], by omega, by omega, by rw [a4, a3]; exact hT.2.2.2.1, fun i => by rw [a3]; exact hT.2.2.2.2 i⟩
  -- nothing is read
  have out : ∀ K : bM → Option (Int × bM), (∀ N, b_fr W_X12_take (b_up M 1 1 0) N → K N = some (-2, N)) → b_wp (b_bind (F_X12_take (b_up M 1 1 0)) K) (fun o2 => (-2 : Int) = o2.1 ∧ R_shape o2.2 ∧ R_bd o2.2 ∧ R_tape o2.2 ∧ R_fault o2.2) := by
    intro K hK
    refine b_Wb (b_wp_m (fun N z => ?_) (tk _ (b_upc (by decide)) (funext fun i => b_upc (by decide))))
    obtain ⟨z1, z2, _⟩ := z
    rw [hK N z1]
    have f0 : b_fr ((1, some 1) :: W_X12_take) M N := b_fr_tr (b_frF (b_fr_refl (M := M)) (by decide)) (b_fr_mo (by decide) z1)
    refine ⟨rfl, R_shape_k (b_kp1 f0 (by decide)) hS, R_bd_k (b_kp1 f0 (by decide)) hb, tape N z2 ?_ ?_ ?_, R_fault_k (b_kp1 f0 (by decide)) hF⟩
    · rw [z1 1 1 (by decide), b_ups]
    · exact funext fun i => f0 72 i (by simp [b_ins, W_X12_take])
    · exact funext fun i => f0 162 i (by simp [b_ins, W_X12_take])
  have b51 : ∀ (v : Int) (P : bM), F_X11_bounds_b51 v P = some (v, b_up P 1 1 0) := fun v P => by
    unfold F_X11_bounds_b51 F_X10_clear
    rfl
  have kk : ∀ N : bM, b_fr W_X12_take (b_up M 1 1 0) N → F_X12_isLot l N = some (b_01 (0 ≤ l ∧ l < M 3 0)) := fun N f => by
    have e : N 11 20 = M 3 0 := by rw [f 11 20 (by decide), b_upc (by decide)]; exact l1.1
    rw [e_X12_isLot (by omega), e]
  unfold F_X11_bounds
  by_cases q : (0 ≤ l ∧ l < M 3 0) ∧ (0 ≤ x ∧ x ≤ 99) ∧ (0 ≤ y ∧ y ≤ 99)
  · obtain ⟨ql, qx, qy⟩ := q
    refine b_We e_X5_has (b_Wf (by rw [b_01_0]; omega) (b_Wf (by omega) (b_Wf (by omega) (b_Wf (by omega) (b_Wf (by omega) ?_)))))
    unfold F_X5_readBounds_1
    refine b_Wb (b_Wb (b_wp_m (fun o z => ?_) (t_readLines hT hw)))
    obtain ⟨n, P⟩ := o
    obtain ⟨z1, z2, z3⟩ := z
    dsimp only at z1 z2 z3
    have p3 : P 3 0 = M 3 0 := z1 3 0 (by decide)
    have nr := Bo_r z2
    -- the reference's reading, of a memory that is P but for the LOT's own cells
    have rd : ∀ (U : bM) (K : Int → bM → Option (Int × bM)) (Z : Int × bM → Prop), U 11 1 = M 11 1 → U 162 = M 162 → U 11 20 = M 11 20 → U 1 1 = 0 → (∀ (R : bM) (u : Int), b_fr (W_X12_readBounds ++ ((11, some 1) :: (11, some 2) :: W_X12_take)) U R → R 11 1 = 0 → (∀ j, j < 720 → R 178 j = U 178 j ∧ R 179 j = U 179 j) → R 11 8 = P 1 5 → R 11 9 = P 1 6 → ((n = -1 ∧ u = 0) ∨ (0 < n ∧ u = 1 ∧ R 11 32 = n ∧ ∀ j : Nat, (j : Int) < n → R 178 (720 + (j : Int)) = z_way (vT (cb M) (3 * j)) ∧ R 179 (720 + (j : Int)) = vT (cb M) (3 * j + 1))) → b_wp (K u R) Z) → b_wp (b_bind (F_X12_take U) (fun M1 => b_bind (F_X12_isLot l M1) (fun x2 => if x2 = 0 then (some ((-2), M1)) else (b_bind (F_X12_in x 0 99 M1) (fun x4 => if x4 = 0 then (some ((-2), M1)) else (b_bind (F_X12_in y 0 99 M1) (fun x6 => if x6 = 0 then (some ((-2), M1)) else (b_let (b_up M1 11 8 0) (fun M8 => b_let (b_up M8 11 9 (-1)) (fun M9 => b_bind (F_X12_readBounds M9) (fun t => b_two t (fun x10 M11 => K x10 M11)))))))))))) Z := by
      intro U K Z a1 a2 a3 a4 hK
      refine b_Wb (b_wp_m (fun N w => ?_) (tk U a1 a2))
      obtain ⟨w1, w2, w3, w4, w5⟩ := w
      have n20 : N 11 20 = M 3 0 := by rw [w1 11 20 (by decide), a3]; exact l1.1
      refine b_We (e_X12_isLot (by omega)) (b_Wf (by rw [b_01_0]; omega) (b_We e_X12_in (b_Wf (by rw [b_01_0]; omega) (b_We e_X12_in (b_Wf (by rw [b_01_0]; omega) (b_Wl (b_Wl ?_)))))))
      generalize hV : b_up (b_up N 11 8 0) 11 9 (-1) = V
      have fV : b_fr [(11, some 8), (11, some 9)] N V := by subst hV; exact b_frF (b_frF b_fr_refl (by decide)) (by decide)
      have v8 : V 11 8 = 0 ∧ V 11 9 = -1 := by subst hV; exact ⟨by rw [b_upi (by decide), b_ups], b_ups⟩
      clear hV
      have rv : rb V = cb M := by
        rw [← w3]
        unfold rb
        rw [fV 11 2 (by decide), show V 162 = N 162 from funext fun i => fV 162 i (by simp [b_ins])]
      have sV : Rs (cb M) V 0 := by
        unfold Rs
        rw [fV 11 5 (by decide), fV 11 6 (by decide), fV 11 3 (by decide), fV 11 10 (by decide), fV 11 4 (by decide), fV 11 7 (by decide)]
        exact w5
      refine b_Wb (b_wp_m (fun o t => ?_) (t_readBounds hB rv (by rw [fV 11 2 (by decide)]; exact w4) sV v8))
      obtain ⟨u, R⟩ := o
      obtain ⟨t1, t2, v, t3, t4⟩ := t
      dsimp only at t1 t2 t3 t4
      obtain ⟨e1, e2, e3⟩ := Bo_u z2 t3
      subst e1
      have fVU : b_fr ((11, some 1) :: (11, some 2) :: W_X12_take) U N := b_fr_mo (by decide) w1
      have fR : b_fr (W_X12_readBounds ++ ((11, some 1) :: (11, some 2) :: W_X12_take)) U R := by
        refine fr_app (b_fr_tr ?_ t1) fVU
        exact b_fr_mo (by decide) fV
      refine b_Wtwo (hK R u fR ?_ (fun j hj => ?_) e2.symm e3.symm t4)
      · rw [t1 11 1 (by decide), fV 11 1 (by decide), w2]
      · rw [(t2 j hj).1, (t2 j hj).2, fV 178 j (by simp [b_ins]), fV 179 j (by simp [b_ins]), w1 178 j (by simp [b_ins, W_X12_take]), w1 179 j (by simp [b_ins, W_X12_take])]
        exact ⟨rfl, rfl⟩
    rcases nr with e | ⟨nr1, nr2⟩
    · refine b_Wtwo (b_Wt e (b_Ws (b_Wtwo ?_)))
      rw [b51]
      refine b_Ws ?_
      dsimp only
      unfold F_X12_bounds
      generalize hU : b_up P 1 1 0 = U
      have fU : b_fr ((1, some 1) :: W_X5_readLines_1) M U := by subst hU; exact b_frF (b_fr_mo (by decide) z1) (by decide)
      have u11 : U 1 1 = 0 := by subst hU; exact b_ups
      have u56 : U 1 5 = P 1 5 ∧ U 1 6 = P 1 6 := by subst hU; exact ⟨b_upi (by decide), b_upi (by decide)⟩
      clear hU
      refine rd U (fun x10 M11 => if x10 = 0 then (some ((-1), M11)) else _) _ (fU 11 1 (by decide)) (funext fun i => fU 162 i (by simp [b_ins, W_X5_readLines_1])) (fU 11 20 (by decide)) u11 (fun R u r1 r2 r3 r4 r5 r6 => ?_)
      have r7 := r6.resolve_right (fun z => by have := z.1; omega)
      refine b_Wt r7.2 (b_Ws ⟨rfl, ?_, ?_, ?_, ?_⟩)
      · have hS2 := R_shape_k (b_kp1 fU (by decide)) hS
        obtain ⟨⟨g1, g2, g3⟩, g4, g5⟩ := hS2
        refine ⟨⟨?_, ?_, ?_⟩, fun l' => ?_, fun l' i a0 a1 b0 b1 => ?_⟩
        · dsimp only
          rw [show R 175 = U 175 from funext fun i => r1 175 i (by simp [b_ins, W_X12_readBounds, W_X12_take]), show R 94 = U 94 from funext fun i => r1 94 i (by simp [b_ins, W_X12_readBounds, W_X12_take])]; exact g1
        · dsimp only
          rw [show R 176 = U 176 from funext fun i => r1 176 i (by simp [b_ins, W_X12_readBounds, W_X12_take]), show R 95 = U 95 from funext fun i => r1 95 i (by simp [b_ins, W_X12_readBounds, W_X12_take])]; exact g2
        · dsimp only
          rw [show R 177 = U 177 from funext fun i => r1 177 i (by simp [b_ins, W_X12_readBounds, W_X12_take]), show R 96 = U 96 from funext fun i => r1 96 i (by simp [b_ins, W_X12_readBounds, W_X12_take])]; exact g3
        · dsimp only
          rw [r1 94 l' (by simp [b_ins, W_X12_readBounds, W_X12_take])]; exact g4 l'
        · dsimp only at b1 ⊢
          rw [r1 94 l' (by simp [b_ins, W_X12_readBounds, W_X12_take])] at b1
          have g4' := g4 l'
          rw [r1 97 _ (by simp [b_ins, W_X12_readBounds, W_X12_take]), (r3 _ (by omega)).1, (r3 _ (by omega)).2]
          exact g5 l' i a0 a1 b0 b1
      · have hb2 := R_bd_k (b_kp1 fU (by decide)) hb
        have g4 := (R_shape_k (b_kp1 fU (by decide)) hS).2.1
        intro l' a0 a1
        have g := hb2 l' a0 a1
        have g4' := g4 l'
        dsimp only
        rw [r1 94 l' (by simp [b_ins, W_X12_readBounds, W_X12_take]), x_ld_c (M := U) (U 94 l').toNat (fun i hi => r3 _ (by omega)), x_ld_c (M := U) (U 94 l').toNat (fun i hi => r3 _ (by omega))]
        refine ⟨fun i b0 b1 => by rw [(r3 _ (by omega)).2]; exact g.1 i b0 b1, ?_⟩
        rcases g.2 with g2 | g2
        · exact Or.inl fun i b0 b1 => by rw [(r3 _ (by omega)).2]; exact g2 i b0 b1
        · exact Or.inr ⟨g2.1, g2.2.1, fun i b0 b1 => by rw [(r3 _ (by omega)).2]; exact g2.2.2 i b0 b1⟩
      · exact tape R r2 (by rw [r1 1 1 (by decide)]; exact u11) (funext fun i => by rw [r1 72 i (by simp [b_ins, W_X12_readBounds, W_X12_take]), fU 72 i (by simp [b_ins, W_X5_readLines_1])]) (funext fun i => by rw [r1 162 i (by simp [b_ins, W_X12_readBounds, W_X12_take]), fU 162 i (by simp [b_ins, W_X5_readLines_1])])
      · exact ⟨by dsimp only; rw [r4, r1 1 5 (by decide), u56.1], by dsimp only; rw [r5, r1 1 6 (by decide), u56.2]⟩
    · refine b_Wtwo (b_Wf (by dsimp only; omega) (b_We e_X5_has (b_Wf (by rw [b_01_0]; dsimp only; omega) (b_Wg (by omega) (b_Wl (b_Wg (by omega) (b_Wl (b_Wg (by omega) (b_Wl (b_Wg (by omega) (b_Wl (b_Ws (b_Wtwo ?_)))))))))))))
      dsimp only
      rw [b51]
      refine b_Ws ?_
      dsimp only
      unfold F_X12_bounds
      generalize hU : b_up (b_up (b_up (b_up (b_set P 97 (s_cpy (P 98) (P 97) 0 (l * 12) 12)) 94 l n) 95 l x) 96 l y) 1 1 0 = U
      have fU : b_fr ((1, some 1) :: (94, none) :: (95, none) :: (96, none) :: (97, none) :: W_X5_readLines_1) M U := by
        subst hU
        exact b_frF (b_frA (b_frA (b_frA (b_frS (b_fr_mo (by decide) z1) (by decide)) (by decide)) (by decide)) (by decide)) (by decide)
      have u11 : U 1 1 = 0 := by subst hU; exact b_ups
      have u56 : U 1 5 = P 1 5 ∧ U 1 6 = P 1 6 := by
        subst hU
        exact ⟨by rw [b_upi (by decide), b_upc (by decide), b_upc (by decide), b_upc (by decide), b_set_n (by decide)], by rw [b_upi (by decide), b_upc (by decide), b_upc (by decide), b_upc (by decide), b_set_n (by decide)]⟩
      have u94 : ∀ j, U 94 j = if j = l then n else M 94 j := fun j => by
        subst hU
        rw [b_upc (by decide), b_upc (by decide), b_upc (by decide), b_upJ, b_set_n (by decide), z1 94 j (by simp [b_ins, W_X5_readLines_1])]
      have u95 : ∀ j, U 95 j = if j = l then x else M 95 j := fun j => by
        subst hU
        rw [b_upc (by decide), b_upc (by decide), b_upJ, b_upc (by decide), b_set_n (by decide), z1 95 j (by simp [b_ins, W_X5_readLines_1])]
      have u96 : ∀ j, U 96 j = if j = l then y else M 96 j := fun j => by
        subst hU
        rw [b_upc (by decide), b_upJ, b_upc (by decide), b_upc (by decide), b_set_n (by decide), z1 96 j (by simp [b_ins, W_X5_readLines_1])]
      have u97 : ∀ j, U 97 j = if l * 12 ≤ j ∧ j < l * 12 + 12 then P 98 (0 + (j - l * 12)) else M 97 j := fun j => by
        subst hU
        rw [b_upc (by decide), b_upc (by decide), b_upc (by decide), b_upc (by decide), b_set_s]
        unfold s_cpy
        rw [z1 97 j (by simp [b_ins, W_X5_readLines_1])]
      clear hU
      refine rd U (fun x10 M11 => if x10 = 0 then (some ((-1), M11)) else _) _ (fU 11 1 (by decide)) (funext fun i => fU 162 i (by simp [b_ins, W_X5_readLines_1])) (fU 11 20 (by decide)) u11 (fun R u r1 r2 r3 r4 r5 r6 => ?_)
      obtain ⟨_, r7, r8, r9⟩ := r6.resolve_left (fun z => by have := z.1; omega)
      refine b_Wf (by omega) (b_Wg (by omega) (b_Wl (b_Wg (by omega) (b_Wl (b_Wg (by omega) (b_Wl ?_))))))
      rw [r8]
      generalize hV : b_up (b_up (b_up R 175 l n) 176 l x) 177 l y = V
      have v175 : ∀ j, V 175 j = if j = l then n else M 94 j := fun j => by
        subst hV
        rw [b_upc (by decide), b_upc (by decide), b_upJ, r1 175 j (by simp [b_ins, W_X12_readBounds, W_X12_take]), fU 175 j (by simp [b_ins, W_X5_readLines_1]), hS.1.1]
      have v176 : ∀ j, V 176 j = if j = l then x else M 95 j := fun j => by
        subst hV
        rw [b_upc (by decide), b_upJ, b_upc (by decide), r1 176 j (by simp [b_ins, W_X12_readBounds, W_X12_take]), fU 176 j (by simp [b_ins, W_X5_readLines_1]), hS.1.2.1]
      have v177 : ∀ j, V 177 j = if j = l then y else M 96 j := fun j => by
        subst hV
        rw [b_upJ, b_upc (by decide), b_upc (by decide), r1 177 j (by simp [b_ins, W_X12_readBounds, W_X12_take]), fU 177 j (by simp [b_ins, W_X5_readLines_1]), hS.1.2.2]
      have vR : ∀ c j, c ≠ 175 → c ≠ 176 → c ≠ 177 → V c j = R c j := fun c j c1 c2 c3 => by
        subst hV
        rw [b_upc c3, b_upc c2, b_upc c1]
      clear hV
      refine b_Wb (b_wp_m (fun O w => ?_) (t_cpB (P := V) (l := l) (by omega)))
      obtain ⟨w1, w2⟩ := w
      unfold F_X12_bounds_b140
      -- cells of O
      have oR : ∀ c j, c ≠ 175 → c ≠ 176 → c ≠ 177 → c ≠ 178 → c ≠ 179 → O c j = R c j := fun c j c1 c2 c3 c4 c5 => by rw [w1 c j c4 c5, vR c j c1 c2 c3]
      have o94 : ∀ j, O 94 j = if j = l then n else M 94 j := fun j => by rw [oR 94 j (by decide) (by decide) (by decide) (by decide) (by decide), r1 94 j (by simp [b_ins, W_X12_readBounds, W_X12_take])]; exact u94 j
      have o95 : ∀ j, O 95 j = if j = l then x else M 95 j := fun j => by rw [oR 95 j (by decide) (by decide) (by decide) (by decide) (by decide), r1 95 j (by simp [b_ins, W_X12_readBounds, W_X12_take])]; exact u95 j
      have o96 : ∀ j, O 96 j = if j = l then y else M 96 j := fun j => by rw [oR 96 j (by decide) (by decide) (by decide) (by decide) (by decide), r1 96 j (by simp [b_ins, W_X12_readBounds, W_X12_take])]; exact u96 j
      have o97 : ∀ j, O 97 j = if l * 12 ≤ j ∧ j < l * 12 + 12 then P 98 (0 + (j - l * 12)) else M 97 j := fun j => by rw [oR 97 j (by decide) (by decide) (by decide) (by decide) (by decide), r1 97 j (by simp [b_ins, W_X12_readBounds, W_X12_take])]; exact u97 j
      have o178 : ∀ j, j < 720 → (¬ (12 * l ≤ j ∧ j < 12 * l + 12) → O 178 j = M 178 j ∧ O 179 j = M 179 j) := fun j hj nj => by
        rw [(w2 j hj).1, (w2 j hj).2, if_neg nj, if_neg nj, vR 178 j (by decide) (by decide) (by decide), vR 179 j (by decide) (by decide) (by decide), (r3 j hj).1, (r3 j hj).2, fU 178 j (by simp [b_ins, W_X5_readLines_1]), fU 179 j (by simp [b_ins, W_X5_readLines_1])]
        exact ⟨rfl, rfl⟩
      have own : ∀ i, 0 ≤ i → i < n → O 97 (12 * l + i) = 100000 * O 178 (12 * l + i) + O 179 (12 * l + i) ∧ (0 ≤ O 178 (12 * l + i) ∧ O 178 (12 * l + i) ≤ 3) ∧ (1 ≤ O 179 (12 * l + i) ∧ O 179 (12 * l + i) ≤ 60) := by
        intro i i0 i1
        have e2 := w2 (12 * l + i) (by omega)
        rw [if_pos (by omega), if_pos (by omega), show 720 + (12 * l + i - 12 * l) = 720 + i by omega, vR 178 _ (by decide) (by decide) (by decide), vR 179 _ (by decide) (by decide) (by decide)] at e2
        have e9 := r9 i.toNat (by omega)
        have e3 := z3 i.toNat (by omega)
        have bl := nr2 i.toNat (by omega)
        rw [show ((i.toNat : Nat) : Int) = i by omega] at e9 e3
        rw [o97, if_pos (by omega), show 0 + (12 * l + i - l * 12) = i by omega, e2.1, e2.2, e9.1, e9.2, e3]
        have wr := z_way_r (v := vT (cb M) (3 * i.toNat))
        have b1 := bl.1.2
        have b2 := bl.2.1.2
        refine ⟨rfl, by omega, b2⟩
      refine b_Ws ⟨?_, ⟨⟨?_, ?_, ?_⟩, fun l' => ?_, fun l' i a0 a1 b0 b1 => ?_⟩, fun l' a0 a1 => ?_, ?_, ?_⟩
      · dsimp only
        rw [oR 11 32 (by decide) (by decide) (by decide) (by decide) (by decide), r8]
      · exact funext fun j => by dsimp only; rw [w1 175 j (by decide) (by decide), v175, o94]
      · exact funext fun j => by dsimp only; rw [w1 176 j (by decide) (by decide), v176, o95]
      · exact funext fun j => by dsimp only; rw [w1 177 j (by decide) (by decide), v177, o96]
      · dsimp only
        rw [o94]
        have := hS.2.1 l'
        split <;> omega
      · dsimp only at b1 ⊢
        rw [o94] at b1
        by_cases e : l' = l
        · rw [if_pos e] at b1
          rw [e]
          have := own i b0 b1
          exact ⟨this.1, this.2.1, by omega⟩
        · rw [if_neg e] at b1
          have h94 := hS.2.1 l'
          have ne : ¬ (12 * l ≤ 12 * l' + i ∧ 12 * l' + i < 12 * l + 12) := by omega
          have e1 := o178 (12 * l' + i) (by omega) ne
          rw [o97, if_neg (by omega), e1.1, e1.2]
          exact hS.2.2 l' i a0 a1 b0 b1
      · dsimp only
        rw [o94]
        by_cases e : l' = l
        · rw [if_pos e, e]
          exact ⟨fun i b0 b1 => (own i b0 b1).2.2.1, Or.inl fun i b0 b1 => (own i b0 b1).2.2.2⟩
        · rw [if_neg e]
          have h94 := hS.2.1 l'
          have g := hb l' a0 a1
          have eq : ∀ i, 0 ≤ i → i < M 94 l' → O 178 (12 * l' + i) = M 178 (12 * l' + i) ∧ O 179 (12 * l' + i) = M 179 (12 * l' + i) := fun i b0 b1 => o178 (12 * l' + i) (by omega) (by omega)
          rw [x_ld_c (M := M) (M 94 l').toNat (fun i hi => eq i (by omega) (by omega)), x_ld_c (M := M) (M 94 l').toNat (fun i hi => eq i (by omega) (by omega))]
          refine ⟨fun i b0 b1 => by rw [(eq i b0 b1).2]; exact g.1 i b0 b1, ?_⟩
          rcases g.2 with g2 | g2
          · exact Or.inl fun i b0 b1 => by rw [(eq i b0 b1).2]; exact g2 i b0 b1
          · exact Or.inr ⟨g2.1, g2.2.1, fun i b0 b1 => by rw [(eq i b0 b1).2]; exact g2.2.2 i b0 b1⟩
      · refine tape O ?_ ?_ (funext fun i => ?_) (funext fun i => ?_)
        · rw [oR 11 1 (by decide) (by decide) (by decide) (by decide) (by decide), r2]
        · rw [oR 1 1 (by decide) (by decide) (by decide) (by decide) (by decide), r1 1 1 (by decide), u11]
        · rw [oR 72 i (by decide) (by decide) (by decide) (by decide) (by decide), r1 72 i (by simp [b_ins, W_X12_readBounds, W_X12_take]), fU 72 i (by simp [b_ins, W_X5_readLines_1])]
        · rw [oR 162 i (by decide) (by decide) (by decide) (by decide) (by decide), r1 162 i (by simp [b_ins, W_X12_readBounds, W_X12_take]), fU 162 i (by simp [b_ins, W_X5_readLines_1])]
      · refine ⟨?_, ?_⟩
        · dsimp only
          rw [oR 11 8 (by decide) (by decide) (by decide) (by decide) (by decide), r4, oR 1 5 (by decide) (by decide) (by decide) (by decide) (by decide), r1 1 5 (by decide), u56.1]
        · dsimp only
          rw [oR 11 9 (by decide) (by decide) (by decide) (by decide) (by decide), r5, oR 1 6 (by decide) (by decide) (by decide) (by decide) (by decide), r1 1 6 (by decide), u56.2]
  · have cls : b_wp (some ((-2 : Int), b_up M 1 1 0)) (fun o => b_wp (F_X12_bounds l x y o.2) (fun o2 => o.1 = o2.1 ∧ R_shape o2.2 ∧ R_bd o2.2 ∧ R_tape o2.2 ∧ R_fault o2.2)) := by
      refine b_Ws ?_
      dsimp only
      unfold F_X12_bounds
      refine out _ (fun N f => ?_)
      refine b_eqn ?_
      refine b_We (kk N f) (b_Wi (fun _ => b_Ws rfl) (fun a => b_We e_X12_in (b_Wi (fun _ => b_Ws rfl) (fun b => b_We e_X12_in (b_Wt ?_ (b_Ws rfl))))))
      rw [b_01_0] at a b
      have a2 := Decidable.of_not_not a
      have b2 := Decidable.of_not_not b
      rw [b_01_0]
      exact fun z => q ⟨a2, b2, z⟩
    refine b_We e_X5_has (b_Wi (fun _ => by rw [b51]; exact cls) (fun a => b_Wi (fun _ => by rw [b51]; exact cls) (fun a1 => b_Wi (fun _ => by rw [b51]; exact cls) (fun a2 => b_Wi (fun _ => by rw [b51]; exact cls) (fun a3 => b_Wt ?_ (by rw [b51]; exact cls))))))
    rw [b_01_0] at a
    have a4 := Decidable.of_not_not a
    by_cases a5 : 99 < y
    · exact a5
    · exact absurd ⟨a4, by omega, by omega⟩ q
