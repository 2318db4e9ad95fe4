theorem e_wrongR {M : bM} {k : Int} : F_X12_wrong k M = some (0, b_up (b_up M 11 8 k) 11 9 (M 11 5)) := by
  refine b_eqn ?_
  unfold F_X12_wrong
  refine b_Wl (b_Wl (b_Ws ?_))
  rw [b_upi (by decide)]
theorem wrR_f {M : bM} {k : Int} : (b_up (b_up M 11 8 k) 11 9 (M 11 5)) 11 8 = k ∧ (b_up (b_up M 11 8 k) 11 9 (M 11 5)) 11 9 = M 11 5 := ⟨by rw [b_upi (by decide), b_ups], b_ups⟩
theorem z_so_1 {k v : Int} : z_so k v = 1 ↔ k = 1 := by
  unfold z_so
  by_cases a : k = 0
  · rw [if_pos a]; omega
  · rw [if_neg a]
    by_cases b : k = 1
    · rw [if_pos b]; omega
    · rw [if_neg b]
      by_cases d : k = 2
      · rw [if_pos d]; omega
      · rw [if_neg d]
        by_cases e : k = 3
        · rw [if_pos e]
          split
          · omega
          · split
            · omega
            · split
              · omega
              · split <;> omega
        · rw [if_neg e]; omega
theorem z_so_2 {k v : Int} : z_so k v = 2 ↔ k = 2 := by
  unfold z_so
  by_cases a : k = 0
  · rw [if_pos a]; omega
  · rw [if_neg a]
    by_cases b : k = 1
    · rw [if_pos b]; omega
    · rw [if_neg b]
      by_cases d : k = 2
      · rw [if_pos d]; omega
      · rw [if_neg d]
        by_cases e : k = 3
        · rw [if_pos e]
          split
          · omega
          · split
            · omega
            · split
              · omega
              · split <;> omega
        · rw [if_neg e]; omega
theorem z_so_8 {k v : Int} : z_so k v = 8 ↔ k = 0 := by
  unfold z_so
  by_cases a : k = 0
  · rw [if_pos a]; omega
  · rw [if_neg a]
    by_cases b : k = 1
    · rw [if_pos b]; omega
    · rw [if_neg b]
      by_cases d : k = 2
      · rw [if_pos d]; omega
      · rw [if_neg d]
        by_cases e : k = 3
        · rw [if_pos e]
          split
          · omega
          · split
            · omega
            · split
              · omega
              · split <;> omega
        · rw [if_neg e]; omega
theorem z_so_3 {k v : Int} : z_so k v = 3 ↔ k = 3 ∧ v = 59 := by
  unfold z_so
  by_cases a : k = 0
  · rw [if_pos a]; omega
  · rw [if_neg a]
    by_cases b : k = 1
    · rw [if_pos b]; omega
    · rw [if_neg b]
      by_cases d : k = 2
      · rw [if_pos d]; omega
      · rw [if_neg d]
        by_cases e : k = 3
        · rw [if_pos e]
          by_cases g : v = 59
          · rw [if_pos g]; omega
          · rw [if_neg g]
            split
            · omega
            · split
              · omega
              · split <;> omega
        · rw [if_neg e]; omega
/-- the reference's next TOKEN -/
theorem t_scanN {M : bM} {c : Int → Int} {n : Int} {i : Nat} (hB : z_B c n) (hc : rb M = c) (h2 : M 11 2 ≤ 1000) (hs : Rs c M i) : b_wp (F_X12_scan M) (fun N => b_fr W_sc M N ∧ rb N = c ∧ N 11 2 ≤ 1000 ∧ Rs c N (i + 1)) := by
  refine b_wp_m (fun N y => ⟨y.1, (rb_k y.1).trans hc, by rw [y.1 11 2 (by decide)]; exact h2, y.2⟩) (t_scan hB hc h2 hs.2.1)
/-- the reference reads lines -/
theorem t_readBounds {M : bM} {c : Int → Int} {n : Int} (hB : z_B c n) (hc : rb M = c) (h2 : M 11 2 ≤ 1000) (hs : Rs c M 0) (h8 : M 11 8 = 0 ∧ M 11 9 = -1) : b_wp (F_X12_readBounds M) (fun o => b_fr W_X12_readBounds M o.2 ∧ (∀ j, j < 720 → o.2 178 j = M 178 j ∧ o.2 179 j = M 179 j) ∧ ∃ v, Bo c v (o.2 11 8) (o.2 11 9) ∧ ((v = -1 ∧ o.1 = 0) ∨ (0 < v ∧ o.1 = 1 ∧ o.2 11 32 = v ∧ ∀ j : Nat, (j : Int) < v → o.2 178 (720 + (j : Int)) = z_way (vT c (3 * j)) ∧ o.2 179 (720 + (j : Int)) = vT c (3 * j + 1)))) := by
  refine b_wl_wp (w_X12_readBounds b_fr_refl) ?_
  unfold F_X12_readBounds
  refine b_Wb (b_wp_m (fun o z => ?_) (b_loop_ind (P := Sum.elim (fun o : Int × bM => (∀ j, j < 720 → o.2 178 j = M 178 j ∧ o.2 179 j = M 179 j) ∧ 0 < o.1 ∧ Bo c o.1 (o.2 11 8) (o.2 11 9) ∧ ∀ j : Nat, (j : Int) < o.1 → o.2 178 (720 + (j : Int)) = z_way (vT c (3 * j)) ∧ o.2 179 (720 + (j : Int)) = vT c (3 * j + 1)) (fun o : Int × bM => (∀ j, j < 720 → o.2 178 j = M 178 j ∧ o.2 179 j = M 179 j) ∧ o.1 = 0 ∧ Bo c (-1) (o.2 11 8) (o.2 11 9))) (I := fun t : Int × bM => ∃ m : Nat, t.1 = m ∧ m ≤ 12 ∧ (rb t.2 = c ∧ t.2 11 2 ≤ 1000) ∧ Rs c t.2 (3 * m) ∧ (t.2 11 8 = 0 ∧ t.2 11 9 = -1) ∧ ¬ (0 < m ∧ kT c (3 * m) = 0) ∧ (∀ j, j < m → Bl c j) ∧ (∀ j, j < 720 → t.2 178 j = M 178 j ∧ t.2 179 j = M 179 j) ∧ ∀ j : Nat, j < m → t.2 178 (720 + (j : Int)) = z_way (vT c (3 * j)) ∧ t.2 179 (720 + (j : Int)) = vT c (3 * j + 1)) (fun t => (13 - t.1).toNat) ?_ (0, M) ⟨0, rfl, by decide, ⟨hc, h2⟩, hs, h8, fun z => by omega, fun j hj => by omega, fun j _ => ⟨rfl, rfl⟩, fun j hj => by omega⟩))
  · rcases o with o | o
    · obtain ⟨z1, z2, z3, z4⟩ := z
      show b_wp (F_X12_readBounds_b139 o.1 o.2) _
      unfold F_X12_readBounds_b139
      refine b_Wl (b_Ws ⟨fun j hj => ?_, o.1, ?_, Or.inr ⟨z2, rfl, by dsimp only; exact b_ups, fun j hj => ?_⟩⟩)
      · dsimp only
        rw [b_upc (by decide), b_upc (by decide)]; exact z1 j hj
      · dsimp only
        rw [b_upi (by decide), b_upi (by decide)]; exact z3
      · dsimp only
        rw [b_upc (by decide), b_upc (by decide)]; exact z4 j hj
    · obtain ⟨z1, z2, z3⟩ := z
      exact b_Ws ⟨z1, -1, z3, Or.inl ⟨rfl, z2⟩⟩
  intro ⟨v, Q⟩ ⟨m, h1, hm, ⟨q1, q2⟩, q3, q4, q5, q6, q7, q8⟩
  dsimp only at h1 q1 q2 q3 q4 q7 q8 ⊢
  obtain ⟨s5, s6, s3, s1, s4, s7⟩ := q3
  have q3 : Rs c Q (3 * m) := ⟨s5, s6, s3, s1, s4, s7⟩
  -- a FAULT
  have bad : ∀ (P : bM) (k : Int), (∀ j, j < 720 → P 178 j = M 178 j ∧ P 179 j = M 179 j) → Bf c m k (P 11 5) → b_wp (b_bind (F_X12_wrong k P) (fun t => b_two t (fun x2 M3 => b_g (x2 = 0 ∨ x2 = 1) (some (.inr (.inr (x2, M3)) : (Int × bM) ⊕ ((Int × bM) ⊕ (Int × bM))))))) (Sum.elim (fun t : Int × bM => (∃ m : Nat, t.1 = m ∧ m ≤ 12 ∧ (rb t.2 = c ∧ t.2 11 2 ≤ 1000) ∧ Rs c t.2 (3 * m) ∧ (t.2 11 8 = 0 ∧ t.2 11 9 = -1) ∧ ¬ (0 < m ∧ kT c (3 * m) = 0) ∧ (∀ j, j < m → Bl c j) ∧ (∀ j, j < 720 → t.2 178 j = M 178 j ∧ t.2 179 j = M 179 j) ∧ ∀ j : Nat, j < m → t.2 178 (720 + (j : Int)) = z_way (vT c (3 * j)) ∧ t.2 179 (720 + (j : Int)) = vT c (3 * j + 1)) ∧ (13 - t.1).toNat < (13 - v).toNat) (Sum.elim (fun o : Int × bM => (∀ j, j < 720 → o.2 178 j = M 178 j ∧ o.2 179 j = M 179 j) ∧ 0 < o.1 ∧ Bo c o.1 (o.2 11 8) (o.2 11 9) ∧ ∀ j : Nat, (j : Int) < o.1 → o.2 178 (720 + (j : Int)) = z_way (vT c (3 * j)) ∧ o.2 179 (720 + (j : Int)) = vT c (3 * j + 1)) (fun o : Int × bM => (∀ j, j < 720 → o.2 178 j = M 178 j ∧ o.2 179 j = M 179 j) ∧ o.1 = 0 ∧ Bo c (-1) (o.2 11 8) (o.2 11 9)))) := by
    intro P k hp hf
    refine b_We e_wrongR (b_Wtwo (b_Wg (Or.inl rfl) (b_Ws ⟨fun j hj => ?_, rfl, ?_⟩)))
    · dsimp only
      rw [b_upc (by decide), b_upc (by decide), b_upc (by decide), b_upc (by decide)]; exact hp j hj
    · dsimp only
      rw [wrR_f.1, wrR_f.2]
      exact ⟨m, hm, q6, Or.inr ⟨q5, rfl, hf⟩⟩
  unfold F_X12_readBounds_s2 F_X12_readBounds_b19
  have wyt : Wyt c (3 * m) ↔ (Q 11 3 = 1 ∧ 25 ≤ Q 11 4) := by
    rw [s3, z_so_1]
    refine ⟨fun z => ⟨z.1, ((ky_way (s1 z.1).2).2.1).mpr z.2⟩, fun z => ⟨z.1, ((ky_way (s1 z.1).2).2.1).mp z.2⟩⟩
  refine b_Wi (fun a => b_Wi (fun b => ?_) (fun b => bad Q 1 q7 (Or.inl ⟨fun z => b (wyt.mp z).2, rfl, s5⟩))) (fun a => bad Q 1 q7 (Or.inl ⟨fun z => a (wyt.mp z).1, rfl, s5⟩))
  have wy := wyt.mpr ⟨a, b⟩
  have ky := ky_way (s1 wy.1).2
  have kw := ky.2.2 b
  refine b_Wi (fun d => bad Q 4 q7 (Or.inr ⟨wy, Or.inl ⟨by omega, rfl, s5⟩⟩)) (fun d => b_Wg (by omega) (b_Wl ?_))
  rw [kw]
  generalize hU : b_up Q 178 (720 + v) (z_way (vT c (3 * m))) = U
  have fU : b_fr [(178, none)] Q U := by subst hU; exact b_frA b_fr_refl (by decide)
  have u178 : ∀ j, U 178 j = if j = 720 + v then z_way (vT c (3 * m)) else Q 178 j := fun j => by subst hU; exact b_upJ
  clear hU
  have ru : rb U = c := by
    rw [← q1]
    unfold rb
    rw [fU 11 2 (by decide), show U 162 = Q 162 from funext fun i => fU 162 i (by simp [b_ins])]
  have sU : Rs c U (3 * m) := by
    unfold Rs
    rw [fU 11 5 (by decide), fU 11 6 (by decide), fU 11 3 (by decide), fU 11 10 (by decide), fU 11 4 (by decide), fU 11 7 (by decide)]
    exact q3
  refine b_Wb (b_wp_m (fun P y => ?_) (t_scanN hB ru (by rw [fU 11 2 (by decide)]; exact q2) sU))
  obtain ⟨y1, y2, y3, y4⟩ := y
  obtain ⟨p5, p6, p3, p1, p4, p7⟩ := y4
  have y4 : Rs c P (3 * m + 1) := ⟨p5, p6, p3, p1, p4, p7⟩
  have p178 : ∀ j, P 178 j = if j = 720 + v then z_way (vT c (3 * m)) else Q 178 j := fun j => by rw [y1 178 j (by simp [b_ins, W_sc])]; exact u178 j
  have p179 : ∀ j, P 179 j = Q 179 j := fun j => by rw [y1 179 j (by simp [b_ins, W_sc]), fU 179 j (by simp [b_ins])]
  have pk : ∀ j, j < 720 → P 178 j = M 178 j ∧ P 179 j = M 179 j := fun j hj => by
    rw [p178, if_neg (by omega), p179]; exact q7 j hj
  refine b_Wi (fun e => ?_) (fun e => bad P 1 pk (Or.inr ⟨wy, Or.inr ⟨by omega, Or.inl ⟨fun z => e (p3.trans (z_so_2.mpr z)), rfl, p5⟩⟩⟩))
  have k2 : kT c (3 * m + 1) = 2 := z_so_2.mp (p3.symm.trans e)
  have n7 : P 11 7 = vT c (3 * m + 1) := p7 k2
  rw [n7]
  refine b_We e_X12_in (b_Wi (fun g => bad P 2 pk (Or.inr ⟨wy, Or.inr ⟨by omega, Or.inr (Or.inl ⟨k2, fun z => ?_, rfl, p5⟩)⟩⟩)) (fun g => ?_))
  · rw [b_01_0] at g
    exact g z.2
  rw [b_01_0] at g
  have g2 := Decidable.of_not_not g
  have nu : Nu c (3 * m + 1) := ⟨k2, g2⟩
  refine b_Wg (by omega) (b_Wl ?_)
  generalize hV : b_up P 179 (720 + v) (vT c (3 * m + 1)) = V
  have fV : b_fr [(179, none)] P V := by subst hV; exact b_frA b_fr_refl (by decide)
  have v179 : ∀ j, V 179 j = if j = 720 + v then vT c (3 * m + 1) else Q 179 j := fun j => by subst hV; rw [b_upJ, p179]
  clear hV
  have rv : rb V = c := by
    rw [← y2]
    unfold rb
    rw [fV 11 2 (by decide), show V 162 = P 162 from funext fun i => fV 162 i (by simp [b_ins])]
  have sV : Rs c V (3 * m + 1) := by
    unfold Rs
    rw [fV 11 5 (by decide), fV 11 6 (by decide), fV 11 3 (by decide), fV 11 10 (by decide), fV 11 4 (by decide), fV 11 7 (by decide)]
    exact y4
  refine b_Wg (by omega) (b_Wb (b_wp_m (fun R x => ?_) (t_scanN hB rv (by rw [fV 11 2 (by decide)]; exact y3) sV)))
  obtain ⟨x1, x2, x3, x4⟩ := x
  obtain ⟨r5, r6, r3, r1, r4, r7⟩ := x4
  have x4 : Rs c R (3 * m + 2) := ⟨r5, r6, r3, r1, r4, r7⟩
  have r178 : ∀ j, R 178 j = if j = 720 + v then z_way (vT c (3 * m)) else Q 178 j := fun j => by rw [x1 178 j (by simp [b_ins, W_sc]), fV 178 j (by simp [b_ins])]; exact p178 j
  have r179 : ∀ j, R 179 j = if j = 720 + v then vT c (3 * m + 1) else Q 179 j := fun j => by rw [x1 179 j (by simp [b_ins, W_sc])]; exact v179 j
  have rk : ∀ j, j < 720 → R 178 j = M 178 j ∧ R 179 j = M 179 j := fun j hj => by
    rw [r178, r179, if_neg (by omega), if_neg (by omega)]; exact q7 j hj
  refine b_Wi (fun i1 => ?_) (fun i1 => bad R 1 rk (Or.inr ⟨wy, Or.inr ⟨by omega, Or.inr (Or.inr ⟨nu, fun z => i1 (r3.trans (z_so_3.mpr z)), rfl, r5⟩)⟩⟩))
  have sg : Sg c (3 * m + 2) 59 := z_so_3.mp (r3.symm.trans i1)
  refine b_Wb (b_wp_m (fun T w => ?_) (t_scanN hB x2 x3 x4))
  obtain ⟨w1, w2, w3, w4⟩ := w
  have t8 : T 11 8 = 0 ∧ T 11 9 = -1 := by
    rw [w1 11 8 (by decide), w1 11 9 (by decide), x1 11 8 (by decide), x1 11 9 (by decide), fV 11 8 (by decide), fV 11 9 (by decide), y1 11 8 (by decide), y1 11 9 (by decide), fU 11 8 (by decide), fU 11 9 (by decide)]
    exact q4
  have t178 : ∀ j, T 178 j = if j = 720 + v then z_way (vT c (3 * m)) else Q 178 j := fun j => by rw [w1 178 j (by simp [b_ins, W_sc])]; exact r178 j
  have t179 : ∀ j, T 179 j = if j = 720 + v then vT c (3 * m + 1) else Q 179 j := fun j => by rw [w1 179 j (by simp [b_ins, W_sc])]; exact r179 j
  have tk : ∀ j, j < 720 → T 178 j = M 178 j ∧ T 179 j = M 179 j := fun j hj => by
    rw [t178, t179, if_neg (by omega), if_neg (by omega)]; exact q7 j hj
  have bls : ∀ j, j < m + 1 → Bl c j := fun j hj => by
    by_cases ej : j = m
    · rw [ej]; exact ⟨wy, nu, sg⟩
    · exact q6 j (by omega)
  have dr : ∀ j : Nat, j < m + 1 → T 178 (720 + (j : Int)) = z_way (vT c (3 * j)) ∧ T 179 (720 + (j : Int)) = vT c (3 * j + 1) := fun j hj => by
    rw [t178, t179]
    by_cases ej : j = m
    · rw [if_pos (by omega), if_pos (by omega), ej]; exact ⟨rfl, rfl⟩
    · rw [if_neg (by omega), if_neg (by omega)]; exact q8 j (by omega)
  have e3 : T 11 3 = z_so (kT c (3 * (m + 1))) (vT c (3 * (m + 1))) := w4.2.2.1
  rw [e3]
  refine b_Wi (fun u => b_Ws ⟨tk, by dsimp only; omega, ⟨m + 1, by omega, bls, Or.inl ⟨by omega, z_so_8.mp u, by dsimp only; omega, t8.1, t8.2⟩⟩, fun j hj => dr j (by dsimp only at hj; omega)⟩) (fun u => b_Ws ⟨⟨m + 1, by dsimp only; omega, by omega, ⟨w2, w3⟩, w4, t8, fun z => u (z_so_8.mpr z.2), bls, tk, dr⟩, by dsimp only; omega⟩)
