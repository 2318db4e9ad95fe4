theorem b_up_z {M : bM} {c : Nat} {i x : Int} : b_up M c i x c = z_up (M c) i x := funext fun j => b_upJ
theorem t_go35 {P : bM} {n su lim i : Int} (hn : 0 ≤ n ∧ n ≤ 120) (hi : 0 ≤ i ∧ i < n) : b_wp (b_loop (fun t : Int × Int => F_X4_greatestOaths_s35 n su lim i t.1 t.2 P) (i, i + 1)) (fun g => (i ≤ g ∧ g < n) ∧ ∀ l, i ≤ l → l < n → P 129 l ≤ P 129 g) := by
  refine b_loop_ind (I := fun t : Int × Int => (i ≤ t.1 ∧ t.1 < n) ∧ (i < t.2 ∧ t.2 ≤ n) ∧ ∀ l, i ≤ l → l < t.2 → P 129 l ≤ P 129 t.1) (fun t => (n - t.2).toNat) ?_ (i, i + 1) ⟨by dsimp only; omega, by dsimp only; omega, fun l l0 l1 => by dsimp only at l1 ⊢; rw [show l = i by omega]; exact Int.le_refl _⟩
  intro ⟨g, j⟩ ⟨h1, h2, h3⟩
  dsimp only at h1 h2 h3 ⊢
  unfold F_X4_greatestOaths_s35
  by_cases q : n ≤ j
  · refine b_Wt q (b_Ws ⟨h1, fun l l0 l1 => h3 l l0 (by omega)⟩)
  · refine b_Wf q (b_Wg (by omega) (b_Wi (fun q2 => b_Wg (by omega) (b_Ws ⟨⟨by dsimp only; omega, by dsimp only; omega, fun l l0 l1 => ?_⟩, by dsimp only; omega⟩)) (fun q2 => b_Wg (by omega) (b_Ws ⟨⟨by dsimp only; omega, by dsimp only; omega, fun l l0 l1 => ?_⟩, by dsimp only; omega⟩))))
    · dsimp only at l1 ⊢
      by_cases ql : l = j
      · subst ql; exact q2
      · exact h3 l l0 (by omega)
    · dsimp only at l1 ⊢
      by_cases ql : l = j
      · subst ql; exact Int.le_refl _
      · have := h3 l l0 (by omega)
        omega
theorem t_gro {M N : bM} {d n : Int} (hB : E_b M d) (hN : E_n M N) (hn : 0 ≤ n ∧ n ≤ 120) (hr : ∀ i, 0 ≤ i → i < n → 0 ≤ N 129 i ∧ N 129 i ≤ 99) : b_wp (F_X4_greatestOaths n N) (fun o => o.1 = z_top (x_rule M d 7) (fun v => z_ct (N 129) v n.toNat) 99 ∧ (0 ≤ o.1 ∧ o.1 ≤ 99 * n) ∧ ∀ c j, c ≠ 129 → o.2 c j = N c j) := by
  have hx := x_act_r (d := d) hB.2.2.2.2.1
  have hru := x_rule_r (d := d) (i := 7) hB.2.2.2.2.1 (by omega)
  unfold F_X4_greatestOaths F_X4_greatestOaths_b102
  refine b_We (e_X4_actThen hB hN) (b_Wg (by omega) (b_We (e_toldE hB hN (by omega)) (b_Wl (b_Wb ?_))))
  generalize hl : min n (x_rule M d 7) = lim
  have hl0 : 0 ≤ lim ∧ lim ≤ n := by omega
  obtain ⟨nn, rfl⟩ := Int.eq_ofNat_of_zero_le hn.1
  have htot : z_top lim (fun v => z_ct (N 129) v nn) 99 = z_top (x_rule M d 7) (fun v => z_ct (N 129) v nn) 99 := by
    refine z_top_c 99 (fun v _ _ => ?_)
    have h1 := z_ct_m (a := N 129) (v := v) (i := 0) (n := nn) (by omega)
    have h2 : z_ct (N 129) v 0 = 0 := rfl
    (try dsimp only)
    omega
  rw [show ((nn : Int)).toNat = nn by omega, ← htot]
  refine b_loop_ind (I := fun t : Int × Int × bM => (0 ≤ t.2.1 ∧ t.2.1 ≤ lim) ∧ (∀ c j, c ≠ 129 → t.2.2 c j = N c j) ∧ (∀ j, t.2.1 ≤ j → j < nn → 0 ≤ t.2.2 129 j ∧ t.2.2 129 j ≤ 99) ∧ (0 ≤ t.1 ∧ t.1 ≤ 99 * t.2.1) ∧ t.1 + z_top (lim - t.2.1) (fun v => z_ct (t.2.2 129) v nn - z_ct (t.2.2 129) v t.2.1.toNat) 99 = z_top lim (fun v => z_ct (N 129) v nn) 99) (fun t => (lim - t.2.1).toNat) ?_ (0, 0, N) ⟨by dsimp only; omega, fun c j _ => rfl, fun j j0 j1 => hr j j0 j1, by dsimp only; omega, ?_⟩
  · intro ⟨su, i, P⟩ ⟨h1, h2, h3, h4, h5⟩
    dsimp only at h1 h2 h3 h4 h5 ⊢
    unfold F_X4_greatestOaths_s19
    by_cases q : lim ≤ i
    · refine b_Wt q (b_Ws (b_Ws ⟨?_, by dsimp only; omega, h2⟩))
      rw [show lim - i = 0 by omega, z_top_0 99 (fun v _ _ => by have := (z_ct_m (a := P 129) (v := v) (i := i.toNat) (n := nn) (by omega)).1; (try dsimp only); omega)] at h5
      (try dsimp only)
      omega
    · refine b_Wf q (b_Wg (by omega) (b_Wb (b_wp_m (fun g w => ?_) (t_go35 (P := P) (su := su) (lim := lim) (n := nn) (i := i) hn (by omega)))))
      obtain ⟨w1, w2⟩ := w
      have hg := h3 g w1.1 w1.2
      unfold F_X4_greatestOaths_b68
      refine b_Wg (by omega) (b_Wl (b_Wg (by omega) (b_Wl (b_Wg (by omega) (b_Wl (b_Wg (by omega) (b_Ws ⟨⟨by dsimp only; omega, fun c j hc => ?_, fun j j0 j1 => ?_, by dsimp only; omega, ?_⟩, by dsimp only; omega⟩)))))))
      · (try dsimp only)
        rw [b_upc hc]
        exact h2 c j hc
      · dsimp only at j0 ⊢
        rw [b_upJ]
        split
        · exact h3 i (by omega) (by omega)
        · exact h3 j (by omega) j1
      · (try dsimp only)
        rw [b_up_z, ← h5]
        obtain ⟨gn, rfl⟩ := Int.eq_ofNat_of_zero_le (show 0 ≤ g by omega)
        obtain ⟨i_n, rfl⟩ := Int.eq_ofNat_of_zero_le h1.1
        rw [show ((i_n : Int)).toNat = i_n by omega, show ((i_n : Int) + 1).toNat = i_n + 1 by omega]
        rw [z_top_s (a := P 129) (g := gn) (i := i_n) (n := nn) (m := lim - i_n) (by omega) (by omega) (fun j j1 j2 => w2 j (by omega) (by omega)) hg (by omega)]
        rw [z_top_c (m := lim - ((i_n : Int) + 1)) (m2 := lim - i_n - 1) (c := fun v => z_ct (z_up (P 129) gn (P 129 i_n)) v nn - z_ct (z_up (P 129) gn (P 129 i_n)) v (i_n + 1)) (c2 := fun v => z_ct (P 129) v nn - z_ct (P 129) v i_n - b_01 (v ≤ P 129 gn)) 99 (fun v _ _ => by
          (try dsimp only)
          rw [z_ct_up, z_ct_up, if_pos (by omega), z_ct_s, show lim - ((i_n : Int) + 1) = lim - i_n - 1 by omega]
          by_cases qg : gn = i_n
          · subst qg
            rw [if_pos (by omega)]
            omega
          · rw [if_neg (by omega)]
            omega)]
        omega
  · (try dsimp only)
    rw [show lim - 0 = lim by omega, z_top_c (m := lim) (m2 := lim) (c := fun v => z_ct (N 129) v nn - z_ct (N 129) v ((0 : Int)).toNat) (c2 := fun v => z_ct (N 129) v nn) 99 (fun v _ _ => by show min lim (z_ct (N 129) v nn - 0) = _; rw [show z_ct (N 129) v nn - 0 = z_ct (N 129) v nn by omega])]
    omega
theorem t_smo {M N : bM} {d b w t : Int} (hB : E_b M d) (hN : E_n M N) (hw : 0 ≤ w ∧ w < 3) (hW : E_w M d b (M 5 0) (N 128) (N 6 11)) : b_wp (F_X4_sumOf t w N) (fun o => o.1 = x_sum M d b w t ∧ (0 ≤ o.1 ∧ o.1 ≤ 99 * 240) ∧ ∀ c j, c ≠ 129 → o.2 c j = N c j) := by
  have s1 := hB.2.2.1.1
  have hm := hW.1
  have fsn : ∀ (k s : Int), ¬ x_W M d b k → (fun (k s : Int) => if x_W M d b k ∧ x_T M d w k = t ∧ M 194 k ≠ 3 then s + x_wt M (x_act M d) k else s) k s = s := fun k s z => if_neg (fun y => z y.1)
  have fon : ∀ (v k s : Int), ¬ x_W M d b k → (fun (k s : Int) => if x_W M d b k ∧ x_T M d w k = t ∧ M 194 k = 3 ∧ v ≤ x_wt M (x_act M d) k then s + 1 else s) k s = s := fun v k s z => if_neg (fun y => z y.1)
  unfold F_X4_sumOf
  refine b_Wb (b_wp_m (fun o y => ?_) (b_loop_ind (P := fun o : Int × Int × bM => (0 ≤ o.1 ∧ o.1 ≤ 99 * 120) ∧ (0 ≤ o.2.1 ∧ o.2.1 ≤ 120) ∧ (∀ c j, c ≠ 129 → o.2.2 c j = N c j) ∧ o.1 = x_sn M d b w t (M 11 53).toNat ∧ (∀ v, z_ct (o.2.2 129) v o.2.1.toNat = x_on M d b w t v (M 11 53).toNat) ∧ ∀ j, 0 ≤ j → j < o.2.1 → 0 ≤ o.2.2 129 j ∧ o.2.2 129 j ≤ 99) (I := fun s : Int × Int × Int × bM => (0 ≤ s.2.2.1 ∧ s.2.2.1 ≤ N 6 11) ∧ (0 ≤ s.1 ∧ s.1 ≤ 99 * s.2.2.1) ∧ (0 ≤ s.2.1 ∧ s.2.1 ≤ s.2.2.1) ∧ (∀ c j, c ≠ 129 → s.2.2.2 c j = N c j) ∧ s.1 = x_sn M d b w t (E_u (N 128) s.2.2.1).toNat ∧ (∀ v, z_ct (s.2.2.2 129) v s.2.1.toNat = x_on M d b w t v (E_u (N 128) s.2.2.1).toNat) ∧ ∀ j, 0 ≤ j → j < s.2.1 → 0 ≤ s.2.2.2 129 j ∧ s.2.2.2 129 j ≤ 99) (fun s => (N 6 11 - s.2.2.1).toNat) ?_ (0, 0, 0, N) ⟨by dsimp only; omega, by dsimp only; omega, by dsimp only; omega, fun c j _ => rfl, rfl, fun v => rfl, fun j j0 j1 => by dsimp only at j1; omega⟩))
  · obtain ⟨su, on, P⟩ := o
    obtain ⟨y1, y2, y3, y4, y5, y6⟩ := y
    dsimp only at y1 y2 y3 y4 y5 y6 ⊢
    have hP : E_n M P := fun c j c1 c2 c3 c4 => by rw [y3 c j c3]; exact hN c j c1 c2 c3 c4
    unfold F_X4_sumOf_b92
    refine b_Wb (b_wp_m (fun o z => ?_) (t_gro hB hP y2 y6))
    obtain ⟨r, P2⟩ := o
    obtain ⟨z1, z2, z3⟩ := z
    dsimp only at z1 z2 z3
    refine b_Wtwo ?_
    (try dsimp only)
    refine b_Wg (by omega) (b_Ws ⟨?_, by dsimp only; omega, fun c j hc => by (try dsimp only); rw [z3 c j hc]; exact y3 c j hc⟩)
    (try dsimp only)
    unfold x_sum
    rw [z1, y4, z_top_c (m := x_rule M d 7) (m2 := x_rule M d 7) (c := fun v => z_ct (P 129) v on.toNat) (c2 := fun v => x_on M d b w t v (M 11 53).toNat) 99 (fun v _ _ => by rw [y5 v])]
  · intro ⟨su, on, i, P⟩ ⟨h1, h2, h3, h4, h5, h6, h7⟩
    dsimp only at h1 h2 h3 h4 h5 h6 h7 ⊢
    have hP : E_n M P := fun c j c1 c2 c3 c4 => by rw [h4 c j c3]; exact hN c j c1 c2 c3 c4
    unfold F_X4_sumOf_s8
    have p11 := h4 6 11 (by decide)
    have p128 : P 128 i = N 128 i := h4 128 i (by decide)
    rw [p11]
    by_cases q : N 6 11 ≤ i
    · refine b_Wt q (b_Ws ⟨by dsimp only; omega, by dsimp only; omega, h4, ?_, fun v => ?_, h7⟩)
      · (try dsimp only)
        rw [h5, show i = N 6 11 by omega, show M 11 53 = M 5 0 by omega]
        exact (E_w_l hW fsn).symm
      · (try dsimp only)
        rw [h6 v, show i = N 6 11 by omega, show M 11 53 = M 5 0 by omega]
        exact (E_w_l hW (fon v)).symm
    · have hk := hW.2.1 i h1.1 (by omega)
      have e1 : x_sn M d b w t (E_u (N 128) (i + 1)).toNat = if x_W M d b (N 128 i) ∧ x_T M d w (N 128 i) = t ∧ M 194 (N 128 i) ≠ 3 then x_sn M d b w t (E_u (N 128) i).toNat + x_wt M (x_act M d) (N 128 i) else x_sn M d b w t (E_u (N 128) i).toNat := E_w_f hW fsn ⟨h1.1, by omega⟩
      have e2 : ∀ v, x_on M d b w t v (E_u (N 128) (i + 1)).toNat = if x_W M d b (N 128 i) ∧ x_T M d w (N 128 i) = t ∧ M 194 (N 128 i) = 3 ∧ v ≤ x_wt M (x_act M d) (N 128 i) then x_on M d b w t v (E_u (N 128) i).toNat + 1 else x_on M d b w t v (E_u (N 128) i).toNat := fun v => E_w_f hW (fon v) ⟨h1.1, by omega⟩
      have p1 := (hB.2.2.2.1 (N 128 i) hk.1.1 hk.1.2).1
      have p110 : P 110 (N 128 i) = M 194 (N 128 i) := by rw [E_nf hP 110 (by decide) (by decide) (by decide) (by decide)]; exact p1.1.symm
      have hwr := x_wt_r hB hk.1
      refine b_Wf q (b_Wg (by omega) (b_Wl ?_))
      rw [p128]
      refine b_We (e_X4_thing hB hP hk.1 hw) (b_Wi (fun q1 => ?_) (fun q1 => b_Wg (by omega) (b_Ws ⟨⟨by dsimp only; omega, by dsimp only; omega, by dsimp only; omega, h4, ?_, fun v => ?_, h7⟩, by dsimp only; omega⟩)))
      · refine b_We (e_X7_wb hB hP hk.1) (b_Wg (by omega) ?_)
        rw [p110]
        refine b_Wi (fun q2 => b_Wg (by omega) (b_Wl (b_Wg (by omega) (b_Ws ⟨⟨by dsimp only; omega, by dsimp only; omega, by dsimp only; omega, fun c j hc => ?_, ?_, fun v => ?_, fun j j0 j1 => ?_⟩, by dsimp only; omega⟩)))) (fun q2 => b_Wg (by omega) (b_Ws ⟨⟨by dsimp only; omega, by dsimp only; omega, by dsimp only; omega, h4, ?_, fun v => ?_, h7⟩, by dsimp only; omega⟩))
        · (try dsimp only)
          rw [b_upc hc]
          exact h4 c j hc
        · (try dsimp only)
          rw [e1, if_neg (fun z => z.2.2 q2)]
          exact h5
        · (try dsimp only)
          rw [b_up_z]
          obtain ⟨o_n, rfl⟩ := Int.eq_ofNat_of_zero_le h3.1
          rw [show ((o_n : Int) + 1).toNat = o_n + 1 by omega, z_ct_s, z_ct_up, if_neg (by omega), e2 v, ← h6 v, show ((o_n : Int)).toNat = o_n by omega]
          have : z_up (P 129) o_n (x_wt M (x_act M d) (N 128 i)) o_n = x_wt M (x_act M d) (N 128 i) := if_pos rfl
          rw [this]
          by_cases qv : v ≤ x_wt M (x_act M d) (N 128 i)
          · rw [b_01_1.mpr qv, if_pos ⟨hk.2, q1, q2, qv⟩]
          · rw [b_01_0.mpr qv, if_neg (fun z => qv z.2.2.2)]
            omega
        · dsimp only at j1 ⊢
          rw [b_upJ]
          split
          · exact hwr
          · exact h7 j j0 (by omega)
        · (try dsimp only)
          rw [e1, if_pos ⟨hk.2, q1, q2⟩, h5]
        · (try dsimp only)
          rw [e2 v, if_neg (fun z => q2 z.2.2.1)]
          exact h6 v
      · (try dsimp only)
        rw [e1, if_neg (fun z => q1 z.2.1)]
        exact h5
      · (try dsimp only)
        rw [e2 v, if_neg (fun z => q1 z.2.1)]
        exact h6 v
theorem t_wsd {M N : bM} {d b w t i : Int} (hB : E_b M d) (hN : E_n M N) (hw : 0 ≤ w ∧ w < 3) (hW : E_w M d b (M 5 0) (N 128) (N 6 11)) (hi : 0 ≤ i ∧ i ≤ N 6 11) : b_wp (F_X4_wasSaid i t w N) (fun r => (r = 0 ∧ ∀ j, 0 ≤ j → j < i → x_T M d w (N 128 j) ≠ t) ∨ (r = 1 ∧ ∃ j, (0 ≤ j ∧ j < i) ∧ x_T M d w (N 128 j) = t)) := by
  have s1 := hB.2.2.1.1
  have hm := hW.1
  unfold F_X4_wasSaid F_X4_wasSaid_b33
  refine b_Wb (b_loop_ind (I := fun j : Int => (0 ≤ j ∧ j ≤ i) ∧ ∀ l, 0 ≤ l → l < j → x_T M d w (N 128 l) ≠ t) (fun j => (i - j).toNat) ?_ 0 ⟨by omega, fun l l0 l1 => by omega⟩)
  intro j ⟨h1, h2⟩
  unfold F_X4_wasSaid_s3
  by_cases q : i ≤ j
  · exact b_Wt q (b_Ws (Or.inl ⟨rfl, fun l l0 l1 => h2 l l0 (by omega)⟩))
  · have hk := hW.2.1 j h1.1 (by omega)
    refine b_Wf q (b_Wg (by omega) (b_We (e_X4_thing hB hN hk.1 hw) (b_Wi (fun q1 => b_Ws (Or.inr ⟨rfl, j, by omega, q1⟩)) (fun q1 => b_Wg (by omega) (b_Ws ⟨⟨by omega, fun l l0 l1 => ?_⟩, by omega⟩)))))
    by_cases ql : l = j
    · subst ql; exact q1
    · exact h2 l l0 (by omega)
theorem t_lnb {M N : bM} {d b w t : Int} (hB : E_b M d) (hN : E_n M N) (hw : 0 ≤ w ∧ w < 3) (hW : E_w M d b (M 5 0) (N 128) (N 6 11)) : b_wp (F_X4_leastNumber t w N) (fun r => (r = 140 ∨ ∃ j, (0 ≤ j ∧ j < N 6 11) ∧ x_T M d w (N 128 j) = t ∧ r = M 115 (3 * N 128 j + w)) ∧ ∀ j, 0 ≤ j → j < N 6 11 → x_T M d w (N 128 j) = t → r ≤ M 115 (3 * N 128 j + w)) := by
  have s1 := hB.2.2.1.1
  have hm := hW.1
  have n5 := E_nf hN 5 (by decide) (by decide) (by decide) (by decide)
  have n115 := E_nf hN 115 (by decide) (by decide) (by decide) (by decide)
  unfold F_X4_leastNumber F_X4_leastNumber_b58
  refine b_Wb (b_loop_ind (I := fun s : Int × Int => (0 ≤ s.2 ∧ s.2 ≤ N 6 11) ∧ (s.1 = 140 ∨ ∃ j, (0 ≤ j ∧ j < N 6 11) ∧ x_T M d w (N 128 j) = t ∧ s.1 = M 115 (3 * N 128 j + w)) ∧ ∀ j, 0 ≤ j → j < s.2 → x_T M d w (N 128 j) = t → s.1 ≤ M 115 (3 * N 128 j + w)) (fun s => (N 6 11 - s.2).toNat) ?_ (140, 0) ⟨by dsimp only; omega, Or.inl rfl, fun j j0 j1 => by dsimp only at j1; omega⟩)
  intro ⟨r, i⟩ ⟨h1, h2, h3⟩
  dsimp only at h1 h2 h3 ⊢
  unfold F_X4_leastNumber_s7
  by_cases q : N 6 11 ≤ i
  · exact b_Wt q (b_Ws (b_Ws ⟨h2, fun j j0 j1 => h3 j j0 (by omega)⟩))
  · have hk := hW.2.1 i h1.1 (by omega)
    refine b_Wf q (b_Wg (by omega) (b_We (e_X4_thing hB hN hk.1 hw) (b_Wi (fun q1 => b_Wg (by omega) (b_We (e_X7_saying (by rw [n5]; exact hk.1) (by rw [n5]; omega) hw) (b_Wl (b_Wg (by omega) (b_Ws ⟨⟨by dsimp only; omega, ?_, fun j j0 j1 => ?_⟩, by dsimp only; omega⟩))))) (fun q1 => b_Wg (by omega) (b_Ws ⟨⟨by dsimp only; omega, h2, fun j j0 j1 => ?_⟩, by dsimp only; omega⟩)))))
    · (try dsimp only)
      rw [n115]
      by_cases qm : r ≤ M 115 (3 * N 128 i + w)
      · rw [Int.min_eq_left qm]; exact h2
      · rw [Int.min_eq_right (by omega)]; exact Or.inr ⟨i, by omega, q1, rfl⟩
    · dsimp only at j1 ⊢
      rw [n115]
      intro z
      by_cases qj : j = i
      · subst qj; exact Int.min_le_right _ _
      · have := h3 j j0 (by omega) z
        omega
    · dsimp only at j1 ⊢
      intro z
      by_cases qj : j = i
      · subst qj; exact absurd z q1
      · exact h3 j j0 (by omega) z
