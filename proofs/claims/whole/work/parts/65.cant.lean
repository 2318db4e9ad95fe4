theorem e_X8_groupOf {M : bM} {d p : Int} (hR : R_ppl M) (hK : Kn M d) (hp : p = -1 ∨ (0 ≤ p ∧ p < M 2 0)) : F_X8_groupOf p M = some (if p = -1 then -1 else x_lab M d p) := by
  have hg := hR.1
  unfold F_X8_groupOf
  rw [e_X8_has, b_bind_s]
  by_cases q : p = -1
  · rw [if_pos (by rw [b_01_0]; omega), if_pos q]
  · rw [if_neg (by rw [b_01_0]; omega), if_neg q, b_g_s (by omega), hK.1 p (by omega) (by omega)]
theorem e_X8_isDeadBy {M : bM} {d p e : Int} (hR : R_ppl M) (hK : Kn M d) (hp : 0 ≤ p ∧ p < M 2 0) : F_X8_isDeadBy p e M = some (b_01 (x_dea M d (x_lab M d p) ≠ -1 ∧ x_dea M d (x_lab M d p) ≤ e)) := by
  refine b_eqn ?_
  have hg := hR.1
  have hT := T_ok_of hR
  have r1 := x_lab_r (d := d) (p := p) hT (by omega)
  have k1 := hK.1 p hp.1 hp.2
  have k2 := hK.2.1 (x_lab M d p) (by omega) (by omega)
  unfold F_X8_isDeadBy
  refine b_We e_X8_has (b_Wf (by rw [b_01_0]; omega) ?_)
  rw [k1, k2]
  (repeat' first | with_reducible refine b_Wg (by omega) ?_ | with_reducible refine b_Wi (fun _ => ?_) (fun _ => ?_) | with_reducible refine b_Wl ?_ | with_reducible refine b_Ws ?_)
  · exact (b_01_0.mpr (by omega)).symm
  · exact (b_01_0.mpr (by omega)).symm
  · exact (b_01_1.mpr (by omega)).symm
theorem e_X8_deathOf {M : bM} {d p : Int} (hR : R_ppl M) (hK : Kn M d) (hp : 0 ≤ p ∧ p < M 2 0) : F_X8_deathOf p M = some (x_dea M d (x_lab M d p)) := by
  refine b_eqn ?_
  have hg := hR.1
  have hT := T_ok_of hR
  have r1 := x_lab_r (d := d) (p := p) hT (by omega)
  have k1 := hK.1 p hp.1 hp.2
  have k2 := hK.2.1 (x_lab M d p) (by omega) (by omega)
  unfold F_X8_deathOf
  refine b_We e_X8_has (b_Wf (by rw [b_01_0]; omega) ?_)
  rw [k1, k2]
  exact b_Wg (by omega) (b_Ws rfl)
theorem e_X8_isChild {M : bM} {d p c : Int} (hR : R_ppl M) (hK : Kn M d) (hp : 0 ≤ p ∧ p < M 2 0) (hc : 0 ≤ c ∧ c < M 2 0) : b_wp (F_X8_isChild p c M) (fun r => (r = 0 ∨ r = 1) ∧ (r = 1 ↔ x_chi M d p c)) := by
  have hg := hR.1
  have hk := hK.2.2 p c hp.1 hp.2 hc.1 hc.2
  unfold F_X8_isChild F_X8_isChild_b46
  refine b_We e_X8_has (b_Wf (by rw [b_01_0]; omega) (b_We e_X8_has (b_Wf (by rw [b_01_0]; omega) ?_)))
  unfold c_bit at hk
  refine b_Wi (fun q => b_Wg (by omega) ?_) (fun q => b_Wg (by omega) ?_)
  · rw [if_pos q] at hk
    have := j_tstu (s := M 84 p) (k := c - 64) (by omega)
    refine b_Wi (fun z => b_Ws ⟨Or.inl rfl, fun y => absurd y (by decide), fun y => absurd (hk.mpr y) (this.mp z)⟩) (fun z => b_Ws ⟨Or.inr rfl, fun _ => hk.mp ?_, fun _ => rfl⟩)
    by_cases y : j_bt (M 84 p) (c - 64).toNat = true
    · exact y
    · exact absurd (this.mpr y) z
  · rw [if_neg q] at hk
    have := j_tstu (s := M 83 p) (k := c) (by omega)
    refine b_Wi (fun z => b_Ws ⟨Or.inl rfl, fun y => absurd y (by decide), fun y => absurd (hk.mpr y) (this.mp z)⟩) (fun z => b_Ws ⟨Or.inr rfl, fun _ => hk.mp ?_, fun _ => rfl⟩)
    by_cases y : j_bt (M 83 p) c.toNat = true
    · exact y
    · exact absurd (this.mpr y) z
def S_pap : bW := [(2, some 0), (3, some 0), (5, some 0), (6, some 0), (110, none), (111, none), (112, none), (113, none), (114, none), (115, none), (116, none), (194, none), (195, none), (196, none), (197, none), (198, none), (199, none)]
def P_pap (M : bM) (k : Int) : Prop := (M 194 k = M 110 k ∧ 0 ≤ M 110 k ∧ M 110 k ≤ 6) ∧ (M 195 k = M 111 k ∧ -1 ≤ M 111 k ∧ M 111 k < M 6 0) ∧ (M 199 k = M 112 k ∧ 0 ≤ M 112 k ∧ M 112 k ≤ 9999) ∧ (M 197 k = M 113 k ∧ M 198 k = M 114 k ∧ 0 ≤ M 113 k ∧ M 113 k ≤ M 114 k ∧ M 114 k ≤ 9999) ∧ (M 196 (3 * k) = M 115 (3 * k) ∧ -1 ≤ M 115 (3 * k) ∧ M 115 (3 * k) < M 2 0) ∧ (M 196 (3 * k + 1) = M 115 (3 * k + 1) ∧ -1 ≤ M 115 (3 * k + 1) ∧ M 115 (3 * k + 1) < M 2 0) ∧ (M 196 (3 * k + 2) = M 115 (3 * k + 2) ∧ -1 ≤ M 115 (3 * k + 2) ∧ M 115 (3 * k + 2) < M 3 0) ∧ M 116 k < M 2 0
/-- what PAPERS say -/
def R_pap (M : bM) : Prop := ∀ k, 0 ≤ k → k < M 5 0 → P_pap M k
theorem R_pap_k {M M2 : bM} (h : ∀ c i, b_ins S_pap c i = true → M2 c i = M c i) (hR : R_pap M) : R_pap M2 := by
  have h2 := h 2 0 rfl
  have h3 := h 3 0 rfl
  have h5 := h 5 0 rfl
  have h6 := h 6 0 rfl
  unfold R_pap P_pap at hR ⊢
  rw [h2, h3, h5, h6, show M2 110 = M 110 from funext fun i => h _ i rfl, show M2 111 = M 111 from funext fun i => h _ i rfl, show M2 112 = M 112 from funext fun i => h _ i rfl, show M2 113 = M 113 from funext fun i => h _ i rfl, show M2 114 = M 114 from funext fun i => h _ i rfl, show M2 115 = M 115 from funext fun i => h _ i rfl, show M2 116 = M 116 from funext fun i => h _ i rfl, show M2 194 = M 194 from funext fun i => h _ i rfl, show M2 195 = M 195 from funext fun i => h _ i rfl, show M2 196 = M 196 from funext fun i => h _ i rfl, show M2 197 = M 197 from funext fun i => h _ i rfl, show M2 198 = M 198 from funext fun i => h _ i rfl, show M2 199 = M 199 from funext fun i => h _ i rfl]
  exact hR
abbrev x_out (M : bM) (d p a z : Int) : Prop := (x_dea M d (x_lab M d p) ≠ -1 ∧ x_dea M d (x_lab M d p) < a) ∨ z < M 163 p
abbrev x_gone (M : bM) (l a z : Int) : Prop := z < M 170 l ∨ (M 171 l ≠ -1 ∧ (M 171 l ≤ a ∨ M 171 l ≤ M 170 l))
def x_ps (M : bM) (d k o : Int) : Int := b_01 (M 200 o ≠ 0 ∧ M 199 o ≤ d ∧ M 203 o = M 203 k ∧ M 204 o = M 204 k)
def x_pf (M : bM) (d k : Int) (n : Nat) : Int := z_fold (fun o a => a + x_ps M d k o) 0 n
theorem x_pf_r {M : bM} {d k : Int} : ∀ n : Nat, 0 ≤ x_pf M d k n ∧ x_pf M d k n ≤ n := by
  intro n
  induction n with
  | zero => exact ⟨Int.le_refl 0, Int.le_refl 0⟩
  | succ n ih =>
    have h1 : x_pf M d k (n + 1) = x_pf M d k n + x_ps M d k n := rfl
    have h2 : x_ps M d k n = 0 ∨ x_ps M d k n = 1 := b_01_b
    omega
/-- why a PAPER can't be -/
def x_cant (M : bM) (d k : Int) : Int := if M 200 k ≠ 0 ∧ x_out M d (M 201 k) (M 202 k) (M 202 k) then 1 else if M 196 (3 * k + 2) ≠ -1 ∧ x_gone M (M 196 (3 * k + 2)) (M 197 k) (M 198 k) then 2 else if M 196 (3 * k) ≠ -1 ∧ x_out M d (M 196 (3 * k)) (M 197 k) (M 198 k) then 3 else if M 196 (3 * k + 1) ≠ -1 ∧ x_out M d (M 196 (3 * k + 1)) (M 197 k) (M 198 k) then 4 else if M 200 k ≠ 0 ∧ M 11 54 ≤ x_pf M d k k.toNat then 5 else 0
theorem e_X12_isOutside {M : bM} {d p a z : Int} (hT : T_ok M) (hl : Ko M d) (hp : 0 ≤ p ∧ p < M 11 12) : F_X12_isOutside p a z d M = some (b_01 (x_out M d p a z)) := by
  refine b_eqn ?_
  have := hT.1
  unfold F_X12_isOutside F_X12_isOutside_b21
  refine b_We (e_X12_deadOf hT hl hp) ?_
  (repeat' first | with_reducible refine b_Wg (by omega) ?_ | with_reducible refine b_Wi (fun _ => ?_) (fun _ => ?_) | with_reducible refine b_Wl ?_ | with_reducible refine b_Ws ?_)
  all_goals first | exact (b_01_0.mpr (by omega)).symm | exact (b_01_1.mpr (by omega)).symm
theorem e_X12_pf {M : bM} {d k : Int} (hk : 0 ≤ k ∧ k < 120) (hw : M 200 k ≠ 0) : b_loop (fun t : Int × Int => F_X12_cantOf_s204 k d t.1 t.2 M) (0, 0) = some (x_pf M d k k.toNat) := by
  refine b_eqn (b_loop_ind (I := fun t : Int × Int => (0 ≤ t.2 ∧ t.2 ≤ k) ∧ t.1 = x_pf M d k t.2.toNat) (fun t => (k - t.2).toNat) ?_ (0, 0) ⟨by dsimp only; omega, rfl⟩)
  intro ⟨a, i⟩ ⟨h1, h2⟩
  dsimp only at h1 h2 ⊢
  unfold F_X12_cantOf_s204 F_X12_cantOf_b278 F_X12_cantOf_b279
  by_cases q : k ≤ i
  · refine b_Wt q (b_Ws (show a = _ from ?_))
    rw [h2, show i = k by omega]
  · refine b_Wf q (b_Wg (by omega) (b_Wf hw ?_))
    have hs : x_pf M d k (i + 1).toNat = a + x_ps M d k i := by rw [h2]; exact z_fold_s h1.1
    have hr := x_pf_r (M := M) (d := d) (k := k) i.toNat
    have n0 : x_ps M d k i = 0 → ((0 ≤ i + 1 ∧ i + 1 ≤ k) ∧ a + 0 = x_pf M d k (i + 1).toNat) ∧ (k - (i + 1)).toNat < (k - i).toNat := by
      intro z
      rw [hs, z]
      omega
    have n1 : x_ps M d k i = 1 → ((0 ≤ i + 1 ∧ i + 1 ≤ k) ∧ a + 1 = x_pf M d k (i + 1).toNat) ∧ (k - (i + 1)).toNat < (k - i).toNat := by
      intro z
      rw [hs, z]
      omega
    (repeat' first | with_reducible refine b_Wg (by omega) ?_ | with_reducible refine b_Wi (fun _ => ?_) (fun _ => ?_) | with_reducible refine b_Wl ?_ | with_reducible refine b_Ws ?_)
    · exact n0 (b_01_0.mpr (by omega))
    · exact n0 (b_01_0.mpr (by omega))
    · exact n1 (b_01_1.mpr (by omega))
    · exact n0 (b_01_0.mpr (by omega))
    · exact n0 (b_01_0.mpr (by omega))
theorem e_X12_cantOf {M : bM} {d k : Int} (hR : R_ppl M) (hL : R_lots M) (hS : R_sign M) (hP : R_pap M) (hg : 1 ≤ M 11 54) (hl : Ko M d) (hk : 0 ≤ k ∧ k < M 5 0) : F_X12_cantOf k d M = some (x_cant M d k) := by
  refine b_eqn ?_
  have hT := T_ok_of hR
  have r1 := hR.1
  have s1 := hS.1
  have s2 := hS.2.1 k hk.1 hk.2
  obtain ⟨p1, p2, p3, p4, p5, p6, p7, p8⟩ := hP k hk.1 hk.2
  have l1 := hL.1
  have b198 : b_wp (F_X12_cantOf_b198 k d M) (fun r => r = if M 200 k ≠ 0 ∧ M 11 54 ≤ x_pf M d k k.toNat then 5 else 0) := by
    unfold F_X12_cantOf_b198 F_X12_cantOf_b288
    by_cases q : M 200 k = 0
    · refine b_Wb (b_Wloop ?_)
      dsimp only
      unfold F_X12_cantOf_s204
      refine b_Wi (fun _ => b_Ws ?_) (fun _ => b_Wg (by omega) (b_Wt q (b_Ws ?_)))
      · exact b_Wt (by omega) (b_Ws (by rw [if_neg (by omega)]))
      · exact b_Wt (by omega) (b_Ws (by rw [if_neg (by omega)]))
    · refine b_We (e_X12_pf (by omega) q) (b_Wi (fun z => b_Ws ?_) (fun z => b_Ws ?_))
      · rw [if_neg (by omega)]
      · rw [if_pos (by omega)]
  have b152 : b_wp (F_X12_cantOf_b152 k d M) (fun r => r = if M 196 (3 * k + 1) ≠ -1 ∧ x_out M d (M 196 (3 * k + 1)) (M 197 k) (M 198 k) then 4 else if M 200 k ≠ 0 ∧ M 11 54 ≤ x_pf M d k k.toNat then 5 else 0) := by
    unfold F_X12_cantOf_b152
    refine b_Wg (by omega) (b_Wi (fun z => ?_) (fun z => b_Wg (by omega) (b_We (e_X12_isOutside hT hl (by omega)) (b_Wi (fun z2 => ?_) (fun z2 => b_Ws ?_)))))
    · rw [if_neg (by omega)]; exact b198
    · rw [b_01_0] at z2
      rw [if_neg (fun w => z2 w.2)]; exact b198
    · rw [b_01_0] at z2
      rw [if_pos ⟨z, Decidable.of_not_not z2⟩]
  have b110 : b_wp (F_X12_cantOf_b110 k d M) (fun r => r = if M 196 (3 * k) ≠ -1 ∧ x_out M d (M 196 (3 * k)) (M 197 k) (M 198 k) then 3 else if M 196 (3 * k + 1) ≠ -1 ∧ x_out M d (M 196 (3 * k + 1)) (M 197 k) (M 198 k) then 4 else if M 200 k ≠ 0 ∧ M 11 54 ≤ x_pf M d k k.toNat then 5 else 0) := by
    unfold F_X12_cantOf_b110
    refine b_Wg (by omega) (b_Wi (fun z => ?_) (fun z => b_Wg (by omega) (b_We (e_X12_isOutside hT hl (by omega)) (b_Wi (fun z2 => ?_) (fun z2 => b_Ws ?_)))))
    · rw [if_neg (by omega)]; exact b152
    · rw [b_01_0] at z2
      rw [if_neg (fun w => z2 w.2)]; exact b152
    · rw [b_01_0] at z2
      rw [if_pos ⟨z, Decidable.of_not_not z2⟩]
  have b37 : b_wp (F_X12_cantOf_b37 k d M) (fun r => r = if M 196 (3 * k + 2) ≠ -1 ∧ x_gone M (M 196 (3 * k + 2)) (M 197 k) (M 198 k) then 2 else if M 196 (3 * k) ≠ -1 ∧ x_out M d (M 196 (3 * k)) (M 197 k) (M 198 k) then 3 else if M 196 (3 * k + 1) ≠ -1 ∧ x_out M d (M 196 (3 * k + 1)) (M 197 k) (M 198 k) then 4 else if M 200 k ≠ 0 ∧ M 11 54 ≤ x_pf M d k k.toNat then 5 else 0) := by
    unfold F_X12_cantOf_b37
    refine b_Wg (by omega) (b_Wl (b_Wi (fun z => ?_) (fun z => b_Wg (by omega) (b_Wi (fun z2 => b_Ws ?_) (fun z2 => b_Wg (by omega) (b_Wi (fun z3 => ?_) (fun z3 => b_Wg (by omega) (b_Wi (fun z4 => b_Ws ?_) (fun z4 => b_Wg (by omega) (b_Wi (fun z5 => ?_) (fun z5 => b_Ws ?_)))))))))))
    · rw [if_neg (fun w => w.1 z)]; exact b110
    · rw [if_pos ⟨z, Or.inl z2⟩]
    · rw [if_neg (fun w => by rcases w.2 with w | w; exact z2 w; exact w.1 z3)]; exact b110
    · rw [if_pos ⟨z, Or.inr ⟨z3, Or.inl z4⟩⟩]
    · rw [if_neg (fun w => by rcases w.2 with w | w; exact z2 w; omega)]; exact b110
    · rw [if_pos ⟨z, Or.inr ⟨z3, Or.inr (by omega)⟩⟩]
  unfold F_X12_cantOf x_cant
  refine b_Wg (by omega) (b_Wi (fun z => ?_) (fun z => b_Wg (by omega) (b_We (e_X12_isOutside hT hl (by omega)) (b_Wi (fun z2 => ?_) (fun z2 => b_Ws ?_)))))
  · rw [if_neg (fun w => w.1 z)]; exact b37
  · rw [b_01_0] at z2
    rw [if_neg (fun w => z2 w.2)]; exact b37
  · rw [b_01_0] at z2
    rw [if_pos ⟨z, Decidable.of_not_not z2⟩]
theorem e_X4_livesWithin {M : bM} {d p a z : Int} (hR : R_ppl M) (hK : Kn M d) (hp : -1 ≤ p ∧ p < M 2 0) (ha : 0 ≤ a ∧ a ≤ 9999) : F_X4_livesWithin p a z M = some (b_01 (¬ (p ≠ -1 ∧ x_out M d p a z))) := by
  refine b_eqn ?_
  have hg := hR.1
  have e1 : M 163 = M 76 := hR.2.1.1
  unfold F_X4_livesWithin
  refine b_We e_X8_has (b_Wi (fun q => b_Ws ?_) (fun q => ?_))
  · rw [b_01_0] at q
    refine (b_01_1.mpr ?_).symm
    exact fun w => w.1 (by omega)
  · rw [b_01_0] at q
    refine b_Wg (by omega) (b_Wi (fun q2 => b_Ws ?_) (fun q2 => b_Wg (by omega) (b_We (e_X8_isDeadBy hR hK (by omega)) (b_Wi (fun q3 => b_Ws ?_) (fun q3 => b_Ws ?_)))))
    · refine (b_01_0.mpr (fun w => w ⟨by omega, Or.inr ?_⟩)).symm
      rw [e1]; exact q2
    · rw [b_01_0] at q3
      refine (b_01_1.mpr ?_).symm
      intro w
      rcases w.2 with w | w
      · exact q3 ⟨w.1, by omega⟩
      · rw [e1] at w; exact q2 w
    · rw [b_01_0] at q3
      have q4 := Decidable.of_not_not q3
      exact (b_01_0.mpr (fun w => w ⟨by omega, Or.inl ⟨q4.1, by omega⟩⟩)).symm
theorem e_X4_isPageFull {M : bM} {d k : Int} (hS : R_sign M) (hP : R_pap M) (hG : R_pages M) (hk : 0 ≤ k ∧ k < M 5 0) (hw : M 116 k ≠ -1) : F_X4_isPageFull k d M = some (b_01 (M 11 54 ≤ x_pf M d k k.toNat)) := by
  refine b_eqn ?_
  have s1 := hS.1
  have s2 := hS.2.1 k hk.1 hk.2
  have g1 := hG.1
  unfold F_X4_isPageFull F_X4_isPageFull_b70
  refine b_Wb (b_wp_m (fun r hr => ?_) (b_loop_ind (P := fun r : Int => r = x_pf M d k k.toNat) (I := fun t : Int × Int => (0 ≤ t.2 ∧ t.2 ≤ k) ∧ t.1 = x_pf M d k t.2.toNat) (fun t => (k - t.2).toNat) ?_ (0, 0) ⟨by dsimp only; omega, rfl⟩))
  · subst hr
    refine b_Wi (fun z => b_Ws ?_) (fun z => b_Ws ?_)
    · exact (b_01_0.mpr (by omega)).symm
    · exact (b_01_1.mpr (by omega)).symm
  · intro ⟨a, i⟩ ⟨h1, h2⟩
    dsimp only at h1 h2 ⊢
    unfold F_X4_isPageFull_s5
    by_cases q : k ≤ i
    · refine b_Wt q (b_Ws (show a = _ from ?_))
      rw [h2, show i = k by omega]
    · refine b_Wf q ?_
      have s3 := hS.2.1 i h1.1 (by omega)
      have p3 := (hP i h1.1 (by omega)).2.2.1
      have hs : x_pf M d k (i + 1).toNat = a + x_ps M d k i := by rw [h2]; exact z_fold_s h1.1
      have hr := x_pf_r (M := M) (d := d) (k := k) i.toNat
      have n0 : x_ps M d k i = 0 → ((0 ≤ i + 1 ∧ i + 1 ≤ k) ∧ a = x_pf M d k (i + 1).toNat) ∧ (k - (i + 1)).toNat < (k - i).toNat := by
        intro z
        rw [hs, z]
        omega
      have n1 : x_ps M d k i = 1 → ((0 ≤ i + 1 ∧ i + 1 ≤ k) ∧ a + 1 = x_pf M d k (i + 1).toNat) ∧ (k - (i + 1)).toNat < (k - i).toNat := by
        intro z
        rw [hs, z]
        omega
      (repeat' first | with_reducible refine b_Wg (by omega) ?_ | with_reducible refine b_Wi (fun _ => ?_) (fun _ => ?_) | with_reducible refine b_Wl ?_ | with_reducible refine b_Ws ?_)
      · exact n0 (b_01_0.mpr (by omega))
      · exact n0 (b_01_0.mpr (by omega))
      · exact n1 (b_01_1.mpr (by omega))
      · exact n0 (b_01_0.mpr (by omega))
theorem e_X7_saying {M : bM} {k j : Int} (hk : 0 ≤ k ∧ k < M 5 0) (h5 : M 5 0 ≤ 120) (hj : 0 ≤ j ∧ j < 3) : F_X7_saying k j M = some (M 115 (3 * k + j)) := by
  unfold F_X7_saying
  rw [e_X7_has, b_bind_s, if_neg (by rw [b_01_0]; omega), if_neg (by omega), if_neg (by omega), b_g_s (by omega), show k * 3 + j = 3 * k + j by omega]
theorem e_X5_itw {M : bM} {l a z : Int} (hL : R_lots M) (hl : 0 ≤ l ∧ l < M 3 0) : F_X5_isThereWithin l a z M = some (b_01 (¬ x_gone M l a z)) := by
  refine b_eqn ?_
  have l1 := hL.1
  have l2 : M 170 = M 87 := hL.2.1.2.1
  have l3 := hL.2.2.1 l hl.1 hl.2
  unfold F_X5_isThereWithin
  refine b_We e_X5_has (b_Wf (by rw [b_01_0]; omega) ?_)
  have l4 : M 170 l = M 87 l := by rw [l2]
  (repeat' first | with_reducible refine b_Wg (by omega) ?_ | with_reducible refine b_Wi (fun _ => ?_) (fun _ => ?_) | with_reducible refine b_Wl ?_ | with_reducible refine b_Ws ?_)
  all_goals first | exact (b_01_0.mpr (by omega)).symm | exact (b_01_1.mpr (by omega)).symm
theorem e_X4_reason {M : bM} {d k : Int} (hR : R_ppl M) (hL : R_lots M) (hS : R_sign M) (hP : R_pap M) (hG : R_pages M) (hK : Kn M d) (hk : 0 ≤ k ∧ k < M 5 0) : F_X4_reason k d M = some (x_cant M d k) := by
  refine b_eqn ?_
  have r1 := hR.1
  have s1 := hS.1
  have s2 := hS.2.1 k hk.1 hk.2
  have hPk := hP k hk.1 hk.2
  obtain ⟨p1, p2, p3, p4, p5, p6, p7, p8⟩ := hPk
  have l1 := hL.1
  have b95 : b_wp (F_X4_reason_b95 k d M) (fun r => r = if M 196 (3 * k) ≠ -1 ∧ x_out M d (M 196 (3 * k)) (M 197 k) (M 198 k) then 3 else if M 196 (3 * k + 1) ≠ -1 ∧ x_out M d (M 196 (3 * k + 1)) (M 197 k) (M 198 k) then 4 else if M 200 k ≠ 0 ∧ M 11 54 ≤ x_pf M d k k.toNat then 5 else 0) := by
    unfold F_X4_reason_b95
    rw [p4.1, p4.2.1, p5.1, p6.1]
    refine b_We (e_X7_saying hk (by omega) (by omega)) (b_Wg (by omega) ?_)
    rw [show 3 * k + 0 = 3 * k by omega]
    refine b_We (e_X4_livesWithin hR hK (by omega) (by omega)) (b_Wi (fun z => b_Ws ?_) (fun z => ?_))
    · rw [b_01_0] at z
      rw [if_pos (Decidable.of_not_not z)]
    · rw [b_01_0] at z
      rw [if_neg (Decidable.of_not_not z)]
      refine b_We (e_X7_saying hk (by omega) (by omega)) (b_Wg (by omega) ?_)
      refine b_We (e_X4_livesWithin hR hK (by omega) (by omega)) (b_Wi (fun z => b_Ws ?_) (fun z => ?_))
      · rw [b_01_0] at z
        rw [if_pos (Decidable.of_not_not z)]
      · rw [b_01_0] at z
        rw [if_neg (Decidable.of_not_not z)]
        refine b_Wg (by omega) (b_Wi (fun z2 => b_Ws ?_) (fun z2 => b_We (e_X4_isPageFull hS hP hG hk z2) (b_Wi (fun z3 => b_Ws ?_) (fun z3 => b_Ws ?_))))
        · rw [if_neg (by omega)]
        · rw [b_01_0] at z3
          rw [if_neg (by omega)]
        · rw [b_01_0] at z3
          rw [if_pos (by omega)]
  have b49 : b_wp (F_X4_reason_b49 k d M) (fun r => r = if M 196 (3 * k + 2) ≠ -1 ∧ x_gone M (M 196 (3 * k + 2)) (M 197 k) (M 198 k) then 2 else if M 196 (3 * k) ≠ -1 ∧ x_out M d (M 196 (3 * k)) (M 197 k) (M 198 k) then 3 else if M 196 (3 * k + 1) ≠ -1 ∧ x_out M d (M 196 (3 * k + 1)) (M 197 k) (M 198 k) then 4 else if M 200 k ≠ 0 ∧ M 11 54 ≤ x_pf M d k k.toNat then 5 else 0) := by
    unfold F_X4_reason_b49
    refine b_We (e_X7_saying hk (by omega) (by omega)) (b_Wi (fun z => ?_) (fun z => b_Wg (by omega) (b_We (e_X5_itw hL (by omega)) (b_Wi (fun z2 => b_Ws ?_) (fun z2 => ?_)))))
    · rw [p7.1, if_neg (fun w => w.1 z)]; exact b95
    · rw [b_01_0] at z2
      rw [p7.1, p4.1, p4.2.1, if_pos ⟨z, Decidable.of_not_not z2⟩]
    · rw [b_01_0] at z2
      rw [p7.1, p4.1, p4.2.1, if_neg (fun w => (Decidable.of_not_not z2) w.2), ← p4.1, ← p4.2.1]; exact b95
  unfold F_X4_reason x_cant
  refine b_Wg (by omega) (b_Wi (fun z => ?_) (fun z => b_Wg (by omega) (b_We (e_X4_livesWithin hR hK (by omega) (by omega)) (b_Wi (fun z2 => b_Ws ?_) (fun z2 => ?_)))))
  · rw [if_neg (fun w => w.1 (by omega))]; exact b49
  · rw [b_01_0] at z2
    have z3 := Decidable.of_not_not z2
    have s3 : M 200 k = 1 ∧ M 201 k = M 116 k ∧ M 202 k = M 117 k := by omega
    rw [s3.2.1, s3.2.2, if_pos ⟨by omega, z3.2⟩]
  · rw [b_01_0] at z2
    have z3 := Decidable.of_not_not z2
    have s3 : M 200 k = 1 ∧ M 201 k = M 116 k ∧ M 202 k = M 117 k := by omega
    rw [s3.2.1, s3.2.2, if_neg (fun w => z3 ⟨z, w.2⟩)]; exact b49
theorem x_cant_c {M N : bM} {d k : Int} (h0 : N 11 13 = M 11 13) (h : ∀ k, 0 ≤ k → k < M 11 13 → N 164 k = M 164 k ∧ N 165 k = M 165 k ∧ N 166 k = M 166 k ∧ N 167 k = M 167 k) (h54 : N 11 54 = M 11 54) (h200 : N 200 = M 200) (h201 : N 201 = M 201) (h202 : N 202 = M 202) (h203 : N 203 = M 203) (h204 : N 204 = M 204) (h196 : N 196 = M 196) (h197 : N 197 = M 197) (h198 : N 198 = M 198) (h199 : N 199 = M 199) (h163 : N 163 = M 163) (h170 : N 170 = M 170) (h171 : N 171 = M 171) : x_cant N d k = x_cant M d k := by
  have e : x_pf N d k = x_pf M d k := by
    funext n
    unfold x_pf x_ps
    rw [h200, h199, h203, h204]
  unfold x_cant x_out x_gone
  rw [x_lab_c h0 h, x_dea_c h0 h, e, h54, h200, h201, h202, h196, h197, h198, h163, h170, h171]
theorem op_cant {k d : Int} {M : bM} (hR : R_ppl M) (hK : R_know M) (hL : R_lots M) (hS : R_sign M) (hP : R_pap M) (hG : R_pages M) (hG1 : 1 ≤ M 11 54) : b_wp (F_X11_cant k d M) (fun o => b_wp (F_X12_cant k d o.2) (fun o2 => o.1 = o2.1 ∧ R_ppl o2.2 ∧ R_know o2.2)) := by
  have hg := hS.1
  unfold F_X11_cant F_X12_cant
  by_cases q : 0 ≤ k ∧ k < M 5 0
  · by_cases q2 : 0 ≤ d ∧ d ≤ 9999
    · refine b_We e_X7_has (b_Wf (by rw [b_01_0]; omega) (b_We e_X11_isDay (b_Wf (by rw [b_01_0]; omega) ?_)))
      refine b_Wb (b_wp_m (fun N w => ?_) (t_know hR hK q2.1))
      obtain ⟨w1, w2, w3, w4⟩ := w
      have w5 : N 5 0 = M 5 0 := w1 5 0 (by decide)
      have w54 : N 11 54 = M 11 54 := w1 11 54 (by decide)
      have hL1 : R_lots N := R_lots_k (b_kp1 w1 (by decide +kernel)) hL
      have hS1 : R_sign N := R_sign_k (b_kp1 w1 (by decide +kernel)) hS
      have hP1 : R_pap N := R_pap_k (b_kp1 w1 (by decide +kernel)) hP
      have hG2 : R_pages N := R_pages_k (b_kp1 w1 (by decide +kernel)) hG
      have hs1 := hS1.1
      refine b_We (e_X4_reason w2 hL1 hS1 hP1 hG2 w4 (by omega)) (b_Ws ?_)
      dsimp only
      refine b_We (e_X12_isPaper (by omega)) (b_Wf (by rw [b_01_0]; omega) (b_We e_X12_isDay (b_Wf (by rw [b_01_0]; omega) ?_)))
      refine b_Wb (b_wp_m (fun N2 y => ?_) (t_mko (d := d) (T_ok_of w2)))
      obtain ⟨y1, y2, y3⟩ := y
      have fr : b_fr W_X12_makeOnes N N2 := fun c i hi => y1 c i (fun q => by subst q; revert hi; simp [b_ins, W_X12_makeOnes])
      have hL2 : R_lots N2 := R_lots_k (b_kp1 fr (by decide +kernel)) hL1
      have hS2 : R_sign N2 := R_sign_k (b_kp1 fr (by decide +kernel)) hS1
      have hP2 : R_pap N2 := R_pap_k (b_kp1 fr (by decide +kernel)) hP1
      have v5 : N2 5 0 = N 5 0 := y1 5 0 (by decide)
      have v54 : N2 11 54 = N 11 54 := y1 11 54 (by decide)
      refine b_We (e_X12_cantOf (R_ppl_168 y1 w2) hL2 hS2 hP2 (by omega) y3 (by omega)) (b_Ws ⟨?_, R_ppl_168 y1 w2, R_know_168 y1 w3⟩)
      dsimp only
      refine (x_cant_c (y1 11 13 (by decide)) (fun k _ _ => ⟨y1 _ _ (by decide), y1 _ _ (by decide), y1 _ _ (by decide), y1 _ _ (by decide)⟩) v54 ?_ ?_ ?_ ?_ ?_ ?_ ?_ ?_ ?_ ?_ ?_ ?_).symm
      all_goals exact funext fun i => y1 _ i (by decide)
    · refine b_We e_X7_has (b_Wf (by rw [b_01_0]; omega) (b_We e_X11_isDay (b_Wt (by rw [b_01_0]; omega) (b_Ws ?_))))
      dsimp only
      exact b_We (e_X12_isPaper (by omega)) (b_Wf (by rw [b_01_0]; omega) (b_We e_X12_isDay (b_Wt (by rw [b_01_0]; omega) (b_Ws ⟨rfl, hR, hK⟩))))
  · refine b_We e_X7_has (b_Wt (by rw [b_01_0]; omega) (b_Ws ?_))
    dsimp only
    exact b_We (e_X12_isPaper (by omega)) (b_Wt (by rw [b_01_0]; omega) (b_Ws ⟨rfl, hR, hK⟩))
