theorem sp_hold {M N : bM} (h : SS M N) : x_hold N = x_hold M := by
  have e1 : x_mk N = x_mk M := by
    funext k w
    unfold x_mk
    rw [sp_c h 205 (fun _ => rfl), sp_c h 206 (fun _ => rfl), sp_c h 207 (fun _ => rfl)]
  have e2 : x_tv N = x_tv M := by
    funext k t
    unfold x_tv
    rw [sp_c h 192 (fun _ => rfl), sp_c h 193 (fun _ => rfl), e1]
  have e3 : x_sv N = x_sv M := by
    funext k f m
    unfold x_sv
    rw [e2]
  have e4 : x_tb N = x_tb M := by
    funext k t
    unfold x_tb
    rw [sp_c h 189 (fun _ => rfl), sp_c h 190 (fun _ => rfl), sp_c h 191 (fun _ => rfl), e3]
  have e5 : x_h1 N = x_h1 M := by
    funext p k i s
    unfold x_h1
    rw [sp_c h 188 (fun _ => rfl), e4]
  funext p k
  unfold x_hold x_hs
  rw [sp_c h 187 (fun _ => rfl), e5]
def x_ws (M : bM) (a k j s : Int) : Int := if M 184 (24 * (a - 1) + j) = M 194 k ∧ x_hold M (24 * (a - 1) + j) k ≠ 0 then M 185 (24 * (a - 1) + j) else s
theorem SS_208 {M P : bM} (h : ∀ c j, c ≠ 208 → P c j = M c j) : SS M P := fun c i hi => h c i (fun q => by subst q; revert hi; simp [b_ins, S_spec])
theorem t_wo {M : bM} {k d : Int} (hR : R_rules M) (hP : R_prog M) (hM : R_marks M) (h5 : M 5 0 ≤ 120) (hk : 0 ≤ k ∧ k < M 5 0) : b_wp (F_X12_weightOf k d M) (fun o => o.1 = x_wt M (x_act M d) k ∧ ∀ c j, c ≠ 208 → o.2 c j = M c j) := by
  have hx := x_act_r (d := d) hR
  have r1 := hR.1
  unfold F_X12_weightOf F_X12_weightOf_b84
  have hmk := hM k hk.1 hk.2
  refine b_We (e_X12_actOn (by omega)) ?_
  by_cases q0 : x_act M d = 0
  · unfold x_mod x_wt
    rw [if_pos q0, if_pos q0]
    refine b_Wg (by omega) (b_Wb (b_Wloop ?_))
    dsimp only
    unfold F_X12_weightOf_s15
    exact b_Wt (by omega) (b_Ws (b_Ws ⟨rfl, fun _ _ _ => rfl⟩))
  · unfold x_mod
    rw [if_neg q0]
    obtain ⟨a, ha⟩ : ∃ a, x_act M d = a := ⟨_, rfl⟩
    rw [ha] at hx q0 ⊢
    have r3 := hR.2.2 a.toNat (by omega)
    rw [show ((a.toNat : Nat) : Int) = a by omega] at r3
    have r4 : M 183 (11 * (a - 1) + 10) = M (12 + a.toNat) 1 := by
      rw [r3.1]
      unfold x_mod
      rw [if_neg q0]
    have rn := r3.2.1
    rw [← r4] at rn
    have hw : x_wt M a k = z_fold (x_ws M a k) 0 (M 183 (11 * (a - 1) + 10)).toNat := by
      unfold x_wt
      rw [if_neg q0]
      rfl
    refine b_Wg (by omega) (b_Wb (b_loop_ind (I := fun s : Int × Int × bM => (24 * (a - 1) ≤ s.2.1 ∧ s.2.1 ≤ 24 * (a - 1) + M 183 (11 * (a - 1) + 10)) ∧ (∀ c j, c ≠ 208 → s.2.2 c j = M c j) ∧ s.1 = z_fold (x_ws M a k) 0 (s.2.1 - 24 * (a - 1)).toNat) (fun s => (24 * (a - 1) + M 183 (11 * (a - 1) + 10) - s.2.1).toNat) ?_ (0, 24 * (a - 1), M) ⟨by dsimp only; omega, fun _ _ _ => rfl, by dsimp only; rw [show (24 * (a - 1) - 24 * (a - 1)).toNat = 0 by omega]; rfl⟩))
    intro ⟨acc, p, P⟩ ⟨h1, h2, h3⟩
    dsimp only at h1 h2 h3 ⊢
    have ss := SS_208 h2
    have k183 := h2 183 (11 * (a - 1) + 10) (by decide)
    have k184 := h2 184 p (by decide)
    have k194 := h2 194 k (by decide)
    unfold F_X12_weightOf_s15
    rw [k183, k184, k194]
    refine b_Wf (by omega) (b_Wg (by omega) ?_)
    by_cases q : 24 * (a - 1) + M 183 (11 * (a - 1) + 10) ≤ p
    · refine b_Wt q (b_Ws (b_Ws ⟨?_, h2⟩))
      dsimp only
      rw [h3, hw, show p - 24 * (a - 1) = M 183 (11 * (a - 1) + 10) by omega]
    · have hs : z_fold (x_ws M a k) 0 (p + 1 - 24 * (a - 1)).toNat = x_ws M a k (p - 24 * (a - 1)) acc := by
        rw [show p + 1 - 24 * (a - 1) = p - 24 * (a - 1) + 1 by omega, z_fold_s (by omega), ← h3]
      have e24 : 24 * (a - 1) + (p - 24 * (a - 1)) = p := by omega
      have hW := hP a (by omega) (by omega) (p - 24 * (a - 1)) (by omega) (by omega)
      rw [e24] at hW
      have hWP : W_prog P p := W_prog_c (funext fun i => h2 _ i (by decide)) (funext fun i => h2 _ i (by decide)) (funext fun i => h2 _ i (by decide)) (funext fun i => h2 _ i (by decide)) (funext fun i => h2 _ i (by decide)) (funext fun i => h2 _ i (by decide)) (funext fun i => h2 _ i (by decide)) hW
      refine b_Wf q (b_Wg (by omega) (b_Wi (fun q1 => b_Wb (b_wp_m (fun o y => ?_) (e_X12_holds (M := P) (p := p) (k := k) (by omega) (by omega) (by rw [h2 207 k (by decide)]; omega) (fun i a b => by
        rw [h2 207 k (by decide)] at b
        rw [h2 206 _ (by decide)]
        have := hmk.2.1 i a (by omega)
        omega) hWP))) (fun q1 => b_Wg (by omega) (b_Ws ⟨⟨by dsimp only; omega, h2, ?_⟩, by dsimp only; omega⟩))))
      · obtain ⟨r, P2⟩ := o
        obtain ⟨y1, y2, y3⟩ := y
        dsimp only at y1 y2 y3
        rw [sp_hold ss] at y1
        have h2' : ∀ c j, c ≠ 208 → P2 c j = M c j := fun c j hc => by rw [y3 c j hc]; exact h2 c j hc
        refine b_Wtwo ?_
        dsimp only
        refine b_Wi (fun q2 => b_Wg (by omega) (b_Ws ⟨⟨by dsimp only; omega, h2', ?_⟩, by dsimp only; omega⟩)) (fun q2 => b_Wg (by omega) (b_Wl (b_Wg (by omega) (b_Ws ⟨⟨by dsimp only; omega, h2', ?_⟩, by dsimp only; omega⟩))))
        · dsimp only
          rw [hs]
          unfold x_ws
          rw [e24, if_neg (fun z => z.2 (by omega))]
        · dsimp only
          rw [hs]
          unfold x_ws
          rw [e24, if_pos ⟨q1, by omega⟩, h2' 185 p (by decide)]
      · dsimp only
        rw [hs]
        unfold x_ws
        rw [e24, if_neg (fun z => q1 z.1)]
/-- what the reference knows as it weighs -/
def O_b (M : bM) (d : Int) : Prop := R_ppl M ∧ Ko M d ∧ R_sign M ∧ R_pap M ∧ R_rules M ∧ (∀ k, 0 ≤ k → k < M 5 0 → (M 214 k = 0 ∨ M 214 k = 1) ∧ (M 214 k = 1 ↔ x_C M d k) ∧ M 215 k = x_wt M (x_act M d) k ∧ (0 ≤ M 215 k ∧ M 215 k ≤ 99))
def O_n (M N : bM) : Prop := ∀ c j, c ≠ 209 → c ≠ 210 → c ≠ 211 → c ≠ 212 → c ≠ 213 → c ≠ 216 → N c j = M c j
/-- one thing said -/
def x_cl (M : bM) (d w s : Int) : Int := if w = 2 then s else x_lab M d s
theorem x_T_cl {M : bM} {d w k : Int} (h : M 196 (3 * k + w) ≠ -1) : x_T M d w k = x_cl M d w (M 196 (3 * k + w)) := by
  unfold x_T x_cl
  rw [if_neg h]
theorem e_X12_classOf {M N : bM} {d w s : Int} (hB : O_b M d) (hN : O_n M N) (hs : w ≠ 2 → 0 ≤ s ∧ s < M 2 0) : F_X12_classOf w s N = some (x_cl M d w s) := by
  unfold F_X12_classOf x_cl
  by_cases q : w = 2
  · rw [if_pos q, if_pos q]
  · have := hs q
    have r := hB.1.1
    rw [if_neg q, if_neg q, b_g_s (by omega), hN 168 s (by decide) (by decide) (by decide) (by decide) (by decide) (by decide), hB.2.1 s (by omega) (by omega)]
theorem O_say {M : bM} {d w k : Int} (hB : O_b M d) (hw : 0 ≤ w ∧ w < 3) (hk : 0 ≤ k ∧ k < M 5 0) : -1 ≤ M 196 (3 * k + w) ∧ (w ≠ 2 → M 196 (3 * k + w) < M 2 0) := by
  obtain ⟨p1, p2, p3, p4, p5, p6, p7, p8⟩ := hB.2.2.2.1 k hk.1 hk.2
  have : w = 0 ∨ w = 1 ∨ w = 2 := by omega
  rcases this with rfl | rfl | rfl
  · rw [show 3 * k + 0 = 3 * k by omega, p5.1]; omega
  · rw [p6.1]; omega
  · rw [p7.1]; omega
theorem t_ins {P : bM} {v1 v2 v3 v4 v5 m k : Int} (hk : 0 ≤ k ∧ k < 120) (hm : 0 ≤ m ∧ m < 120) : b_wp (b_loop (fun t : Int × bM => F_X12_sumFor_s102 v1 v2 v3 v4 v5 m k t.1 t.2) (m, P)) (fun o => (0 ≤ o.1 ∧ o.1 ≤ m) ∧ (∀ c j, c ≠ 216 → o.2 c j = P c j) ∧ (∀ j, 0 ≤ j → j < o.1 → o.2 216 j = P 216 j) ∧ (∀ j, o.1 ≤ j → j < m → o.2 216 (j + 1) = P 216 j) ∧ (∀ j, o.1 ≤ j → j < m → P 216 j < P 215 k) ∧ (0 < o.1 → P 215 k ≤ P 216 (o.1 - 1))) := by
  refine b_loop_ind (I := fun t : Int × bM => (0 ≤ t.1 ∧ t.1 ≤ m) ∧ (∀ c j, c ≠ 216 → t.2 c j = P c j) ∧ (∀ j, 0 ≤ j → j < t.1 → t.2 216 j = P 216 j) ∧ (∀ j, t.1 ≤ j → j < m → t.2 216 (j + 1) = P 216 j) ∧ (∀ j, t.1 ≤ j → j < m → P 216 j < P 215 k)) (fun t => t.1.toNat) ?_ (m, P) ⟨by dsimp only; omega, fun _ _ _ => rfl, fun _ _ _ => rfl, fun j j0 j1 => by dsimp only at j0; omega, fun j j0 j1 => by dsimp only at j0; omega⟩
  intro ⟨t, Q⟩ ⟨h1, h2, h3, h4, h5⟩
  dsimp only at h1 h2 h3 h4 h5 ⊢
  unfold F_X12_sumFor_s102
  by_cases q : t ≤ 0
  · exact b_Wt q (b_Ws ⟨h1, h2, h3, h4, h5, fun z => by dsimp only at z; omega⟩)
  · have e := h3 (t - 1) (by omega) (by omega)
    rw [h2 215 k (by decide), e]
    refine b_Wf q (b_Wg (by omega) (b_Wi (fun q1 => b_Ws ⟨h1, h2, h3, h4, h5, fun _ => q1⟩) (fun q1 => b_Wg (by omega) (b_Wl (b_Wg (by omega) (b_Ws ⟨⟨by dsimp only; omega, fun c j hc => ?_, fun j j0 j1 => ?_, fun j j0 j1 => ?_, fun j j0 j1 => ?_⟩, by dsimp only; omega⟩))))))
    · dsimp only
      rw [b_upc hc]; exact h2 c j hc
    · dsimp only at j1 ⊢
      rw [b_upi (by omega)]; exact h3 j j0 (by omega)
    · dsimp only at j0 ⊢
      by_cases qj : j + 1 = t
      · rw [qj, b_ups, show t - 1 = j by omega]
      · rw [b_upi qj]; exact h4 j (by omega) j1
    · dsimp only at j0 ⊢
      by_cases qj : j + 1 = t
      · rw [show j = t - 1 by omega]; omega
      · exact h5 j (by omega) j1
theorem t_sf {M N : bM} {d b w t : Int} (hB : O_b M d) (hN : O_n M N) (hw : 0 ≤ w ∧ w < 3) (ht : t ≠ -1) : b_wp (F_X12_sumFor b w t (x_rule M d 7) N) (fun o => o.1 = x_sum M d b w t ∧ (0 ≤ o.1 ∧ o.1 ≤ 23760) ∧ ∀ c j, c ≠ 216 → o.2 c j = N c j) := by
  have s1 := hB.2.2.1.1
  have hru := x_rule_r (d := d) (i := 7) hB.2.2.2.2.1 (by omega)
  unfold F_X12_sumFor
  refine b_Wb (b_wp_m (fun o y => ?_) (b_loop_ind (P := fun o : Int × Int × bM => (0 ≤ o.1 ∧ o.1 ≤ 99 * 120) ∧ (0 ≤ o.2.1 ∧ o.2.1 ≤ 120) ∧ (∀ c j, c ≠ 216 → o.2.2 c j = N c j) ∧ o.1 = x_sn M d b w t (M 11 53).toNat ∧ (∀ v, z_ct (o.2.2 216) v o.2.1.toNat = x_on M d b w t v (M 11 53).toNat) ∧ (∀ j, 0 ≤ j → j < o.2.1 → 0 ≤ o.2.2 216 j ∧ o.2.2 216 j ≤ 99) ∧ ∀ j, 0 ≤ j → j + 1 < o.2.1 → o.2.2 216 (j + 1) ≤ o.2.2 216 j) (I := fun s : Int × Int × Int × bM => (0 ≤ s.2.2.1 ∧ s.2.2.1 ≤ M 11 53) ∧ (0 ≤ s.1 ∧ s.1 ≤ 99 * s.2.2.1) ∧ (0 ≤ s.2.1 ∧ s.2.1 ≤ s.2.2.1) ∧ (∀ c j, c ≠ 216 → s.2.2.2 c j = N c j) ∧ s.1 = x_sn M d b w t s.2.2.1.toNat ∧ (∀ v, z_ct (s.2.2.2 216) v s.2.1.toNat = x_on M d b w t v s.2.2.1.toNat) ∧ (∀ j, 0 ≤ j → j < s.2.1 → 0 ≤ s.2.2.2 216 j ∧ s.2.2.2 216 j ≤ 99) ∧ ∀ j, 0 ≤ j → j + 1 < s.2.1 → s.2.2.2 216 (j + 1) ≤ s.2.2.2 216 j) (fun s => (M 11 53 - s.2.2.1).toNat) ?_ (0, 0, 0, N) ⟨by dsimp only; omega, by dsimp only; omega, by dsimp only; omega, fun c j _ => rfl, rfl, fun v => rfl, fun j j0 j1 => by dsimp only at j1; omega, fun j j0 j1 => by dsimp only at j1; omega⟩))
  · obtain ⟨su, m, P⟩ := o
    obtain ⟨y1, y2, y3, y4, y5, y6, y7⟩ := y
    dsimp only at y1 y2 y3 y4 y5 y6 y7 ⊢
    unfold F_X12_sumFor_b171 F_X12_sumFor_b206
    generalize hl : min m (x_rule M d 7) = l
    obtain ⟨mn, rfl⟩ := Int.eq_ofNat_of_zero_le y2.1
    obtain ⟨ln, rfl⟩ := Int.eq_ofNat_of_zero_le (show 0 ≤ l by omega)
    have hf := z_top_f (a := P 216) (n := mn) (l := ln) (fun j hj => y7 j (by omega) (by omega)) (fun j hj => y6 j (by omega) (by omega)) (by omega)
    have ht2 : z_top ln (fun v => z_ct (P 216) v mn) 99 = z_top (x_rule M d 7) (fun v => x_on M d b w t v (M 11 53).toNat) 99 := by
      refine z_top_c 99 (fun v _ _ => ?_)
      have h1 := z_ct_m (a := P 216) (v := v) (i := 0) (n := mn) (by omega)
      have h2 : z_ct (P 216) v 0 = 0 := rfl
      have h3 := y5 v
      rw [show ((mn : Int)).toNat = mn by omega] at h3
      rw [← h3]
      omega
    refine b_Wb (b_loop_ind (I := fun s : Int × Int => (0 ≤ s.2 ∧ s.2 ≤ ln) ∧ s.1 = su + z_fold (fun i a => a + P 216 i) 0 s.2.toNat ∧ (0 ≤ s.1 ∧ s.1 ≤ 99 * 120 + 99 * s.2)) (fun s => ((ln : Int) - s.2).toNat) ?_ (su, 0) ⟨by dsimp only; omega, show su = su + 0 by omega, by dsimp only; omega⟩)
    intro ⟨a, i⟩ ⟨h1, h2, h3⟩
    dsimp only at h1 h2 h3 ⊢
    unfold F_X12_sumFor_s174
    have fin : (ln : Int) ≤ i → b_wp (some (a, P)) (fun o => o.1 = x_sum M d b w t ∧ (0 ≤ o.1 ∧ o.1 ≤ 23760) ∧ ∀ c j, c ≠ 216 → o.2 c j = N c j) := by
      intro z
      refine b_Ws ⟨?_, by dsimp only; omega, y3⟩
      dsimp only
      rw [h2, show i.toNat = ln by omega, hf, ht2, y4]
      rfl
    refine b_Wi (fun q => b_Ws (fin (by omega))) (fun q => b_Wi (fun q2 => b_Ws (fin (by omega))) (fun q2 => ?_))
    have r := y6 i h1.1 (by omega)
    refine b_Wg (by omega) (b_Wl (b_Wg (by omega) (b_Ws ⟨⟨by dsimp only; omega, ?_, by dsimp only; omega⟩, by dsimp only; omega⟩)))
    dsimp only
    rw [z_fold_s h1.1, h2]
    omega
  · intro ⟨su, m, k, P⟩ ⟨h1, h2, h3, h4, h5, h6, h7, h8⟩
    dsimp only at h1 h2 h3 h4 h5 h6 h7 h8 ⊢
    have hP : O_n M P := fun c j c1 c2 c3 c4 c5 c6 => by rw [h4 c j c6]; exact hN c j c1 c2 c3 c4 c5 c6
    have g : ∀ c j, c ≠ 209 → c ≠ 210 → c ≠ 211 → c ≠ 212 → c ≠ 213 → c ≠ 216 → P c j = M c j := hP
    unfold F_X12_sumFor_s9
    rw [g 11 53 (by decide) (by decide) (by decide) (by decide) (by decide) (by decide), g 196 (3 * k + w) (by decide) (by decide) (by decide) (by decide) (by decide) (by decide), g 214 k (by decide) (by decide) (by decide) (by decide) (by decide) (by decide), g 195 k (by decide) (by decide) (by decide) (by decide) (by decide) (by decide), g 194 k (by decide) (by decide) (by decide) (by decide) (by decide) (by decide), g 215 k (by decide) (by decide) (by decide) (by decide) (by decide) (by decide)]
    by_cases q : M 11 53 ≤ k
    · refine b_Wt q (b_Ws ⟨by dsimp only; omega, by dsimp only; omega, h4, ?_, fun v => ?_, h7, h8⟩)
      · dsimp only
        rw [h5, show k = M 11 53 by omega]
      · dsimp only
        rw [h6 v, show k = M 11 53 by omega]
    · have bk := hB.2.2.2.2.2 k h1.1 (by omega)
      have e1 : x_sn M d b w t (k + 1).toNat = if x_W M d b k ∧ x_T M d w k = t ∧ M 194 k ≠ 3 then x_sn M d b w t k.toNat + x_wt M (x_act M d) k else x_sn M d b w t k.toNat := z_fold_s h1.1
      have e2 : ∀ v, x_on M d b w t v (k + 1).toNat = if x_W M d b k ∧ x_T M d w k = t ∧ M 194 k = 3 ∧ v ≤ x_wt M (x_act M d) k then x_on M d b w t v k.toNat + 1 else x_on M d b w t v k.toNat := fun v => z_fold_s h1.1
      have skip : ¬ (x_W M d b k ∧ x_T M d w k = t) → ((0 ≤ k + 1 ∧ k + 1 ≤ M 11 53) ∧ (0 ≤ su ∧ su ≤ 99 * (k + 1)) ∧ (0 ≤ m ∧ m ≤ k + 1) ∧ (∀ c j, c ≠ 216 → P c j = N c j) ∧ su = x_sn M d b w t (k + 1).toNat ∧ (∀ v, z_ct (P 216) v m.toNat = x_on M d b w t v (k + 1).toNat) ∧ (∀ j, 0 ≤ j → j < m → 0 ≤ P 216 j ∧ P 216 j ≤ 99) ∧ ∀ j, 0 ≤ j → j + 1 < m → P 216 (j + 1) ≤ P 216 j) ∧ (M 11 53 - (k + 1)).toNat < (M 11 53 - k).toNat := by
        intro z
        refine ⟨⟨by omega, by omega, by omega, h4, ?_, fun v => ?_, h7, h8⟩, by omega⟩
        · rw [e1, if_neg (fun y => z ⟨y.1, y.2.1⟩)]; exact h5
        · rw [e2 v, if_neg (fun y => z ⟨y.1, y.2.1⟩)]; exact h6 v
      have hsay := O_say hB hw (k := k) ⟨h1.1, by omega⟩
      refine b_Wf q (b_Wg (by omega) (b_Wl (b_Wg (by omega) (b_Wi (fun q1 => b_Wg (by omega) (b_Ws (skip (fun z => by have := bk.2.1.mpr z.1.1; omega)))) (fun q1 => b_Wg (by omega) (b_Wi (fun q2 => ?_) (fun q2 => b_Wg (by omega) (b_Ws (skip (fun z => q2 z.1.2))))))))))
      refine b_Wi (fun q3 => b_Wg (by omega) (b_Ws (skip (fun z => ht (by rw [← z.2]; unfold x_T; rw [if_pos q3]))))) (fun q3 => ?_)
      have hW : x_W M d b k := ⟨bk.2.1.mp (by omega), q2⟩
      refine b_We (e_X12_classOf hB hP (fun z => ⟨by omega, hsay.2 z⟩)) ?_
      rw [← x_T_cl q3]
      refine b_Wi (fun q4 => b_Wg (by omega) (b_Wi (fun q5 => ?_) (fun q5 => ?_))) (fun q4 => b_Wg (by omega) (b_Ws (skip (fun z => q4 z.2))))
      · refine b_Wb (b_wp_m (fun o y => ?_) (t_ins (P := P) (k := k) (m := m) (by omega) (by omega)))
        obtain ⟨a, Q⟩ := o
        obtain ⟨y1, y2, y3, y4, y5, y6⟩ := y
        dsimp only at y1 y2 y3 y4 y5 y6 ⊢
        have p215 : P 215 k = x_wt M (x_act M d) k := by rw [g 215 k (by decide) (by decide) (by decide) (by decide) (by decide) (by decide)]; exact bk.2.2.1
        unfold F_X12_sumFor_b148
        rw [y2 215 k (by decide), p215]
        rw [p215] at y5 y6
        have hwr := bk.2.2.2
        rw [bk.2.2.1] at hwr
        generalize x_wt M (x_act M d) k = wt at e1 e2 hwr p215 y5 y6 ⊢
        refine b_Wg (by omega) (b_Wl (b_Wg (by omega) (b_Ws ⟨⟨by dsimp only; omega, by dsimp only; omega, by dsimp only; omega, fun c j hc => ?_, ?_, fun v => ?_, fun j j0 j1 => ?_, fun j j0 j1 => ?_⟩, by dsimp only; omega⟩)))
        · dsimp only
          rw [b_upc hc, y2 c j hc]; exact h4 c j hc
        · dsimp only
          rw [e1, if_neg (fun z => z.2.2 q5)]; exact h5
        · dsimp only
          obtain ⟨an, rfl⟩ := Int.eq_ofNat_of_zero_le y1.1
          obtain ⟨mn, rfl⟩ := Int.eq_ofNat_of_zero_le h3.1
          rw [show ((mn : Int) + 1).toNat = mn + 1 by omega, z_ct_ins (o := P 216) (w := wt) (t := an) (m := mn) (by omega) (fun j hj => by rw [b_upi (by omega)]; exact y3 j (by omega) (by omega)) b_ups (fun j j1 j2 => by rw [b_upi (by omega)]; exact y4 j (by omega) (by omega)), e2 v]
          have h6v := h6 v
          rw [show ((mn : Int)).toNat = mn by omega] at h6v
          rw [h6v]
          by_cases qv : v ≤ wt
          · rw [b_01_1.mpr qv, if_pos ⟨hW, q4, q5, qv⟩]
          · rw [b_01_0.mpr qv, if_neg (fun z => qv z.2.2.2)]; omega
        · dsimp only at j1 ⊢
          by_cases qj : j = a
          · rw [qj, b_ups]; exact hwr
          · rw [b_upi qj]
            by_cases qj2 : j < a
            · rw [y3 j j0 qj2]; exact h7 j j0 (by omega)
            · have := y4 (j - 1) (by omega) (by omega)
              rw [show j - 1 + 1 = j by omega] at this
              rw [this]; exact h7 (j - 1) (by omega) (by omega)
        · dsimp only at j1 ⊢
          by_cases qj : j = a
          · rw [qj, b_ups, b_upi (by omega)]
            rw [y4 a (by omega) (by omega)]
            have := y5 a (by omega) (by omega)
            omega
          · by_cases qj2 : j + 1 = a
            · rw [qj2, b_ups, b_upi (by omega), y3 j j0 (by omega)]
              have := y6 (by omega)
              rw [show a - 1 = j by omega] at this
              exact this
            · rw [b_upi qj2, b_upi qj]
              by_cases qj3 : j < a
              · rw [y3 (j + 1) (by omega) (by omega), y3 j j0 qj3]
                exact h8 j j0 (by omega)
              · have t1 := y4 j (by omega) (by omega)
                have t2 := y4 (j - 1) (by omega) (by omega)
                have t3 := h8 (j - 1) (by omega) (by omega)
                rw [show j - 1 + 1 = j by omega] at t2 t3
                rw [t1, t2]
                exact t3
      · refine b_Wg (by omega) (b_Wl (b_Wg (by omega) (b_Ws ⟨⟨by dsimp only; omega, by dsimp only; omega, by dsimp only; omega, h4, ?_, fun v => ?_, h7, h8⟩, by dsimp only; omega⟩)))
        · dsimp only
          rw [e1, if_pos ⟨hW, q4, q5⟩, bk.2.2.1, h5]
        · dsimp only
          rw [e2 v, if_neg (fun z => q5 z.2.2.1)]; exact h6 v
