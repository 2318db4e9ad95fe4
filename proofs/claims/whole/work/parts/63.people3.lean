theorem x_st_eq {M : bM} {d k : Int} {L : Int → Int} (h : M 164 k = 1 → M 167 k ≤ d → L (M 165 k) = L (M 166 k)) : x_st M d k L = L := by
  unfold x_st
  by_cases q : M 164 k = 1 ∧ M 167 k ≤ d
  · rw [if_pos q]
    have := h q.1 q.2
    funext p
    rw [this]
    split <;> omega
  · rw [if_neg q]
theorem x_st_s {M : bM} {d k p q : Int} {L : Int → Int} (h : L p = L q) : x_st M d k L p = x_st M d k L q := by
  unfold x_st
  split
  · dsimp only; rw [h]
  · exact h
theorem x_st_v {M : bM} {d k p : Int} {L : Int → Int} (h : M 164 k = 1 ∧ M 167 k ≤ d) : x_st M d k L p = if L p = max (L (M 165 k)) (L (M 166 k)) then min (L (M 165 k)) (L (M 166 k)) else L p := by
  unfold x_st
  rw [if_pos h]
theorem x_lb_s {M : bM} {d : Int} : ∀ (n : Nat) (k : Int), 0 ≤ k → k < n → M 164 k = 1 → M 167 k ≤ d → x_lb M d n (M 165 k) = x_lb M d n (M 166 k) := by
  intro n
  induction n with
  | zero => intro k h0 h1; omega
  | succ n ih =>
    intro k h0 h1 hk hd
    show x_st M d n (x_lb M d n) (M 165 k) = x_st M d n (x_lb M d n) (M 166 k)
    by_cases q : k = n
    · subst q
      unfold x_st
      rw [if_pos ⟨hk, hd⟩]
      generalize x_lb M d n (M 165 n) = a
      generalize x_lb M d n (M 166 n) = b
      split <;> split <;> omega
    · exact x_st_s (ih k h0 (by omega) hk hd)
theorem e_m114 {d i a b lo : Int} {M : bM} (hn : 0 ≤ M 11 12 ∧ M 11 12 ≤ 80) (hab : a ≠ b) (hi : 0 ≤ i ∧ i < 400) (hlo : lo = min a b) : F_X12_makeOnes_b114 d i a b lo M = some (.inl (1, i + 1, p_rl 168 (M 11 12) (max a b) (min a b) 0 M)) := by
  subst hlo
  unfold F_X12_makeOnes_b114
  rw [e_mk119 hn hab, b_bind_s]
  unfold F_X12_makeOnes_b167
  rw [b_g_s (by omega)]
theorem t_m33 {d : Int} {M : bM} {L : Int → Int} (hT : T_ok M) (hL : ∀ p, 0 ≤ p → p < M 11 12 → M 168 p = L p) : b_wp (b_loop (fun t : Int × Int × bM => F_X12_makeOnes_s33 d t.1 t.2.1 t.2.2) (0, 0, M)) (fun o => (o.1 = 0 ∨ o.1 = 1) ∧ (∀ c j, c ≠ 168 → o.2 c j = M c j) ∧ (∀ p, 0 ≤ p → p < M 11 12 → o.2 168 p = z_fold (x_st M d) L (M 11 13).toNat p) ∧ ((∀ k, 0 ≤ k → k < M 11 13 → M 164 k = 1 → M 167 k ≤ d → L (M 165 k) = L (M 166 k)) → o.1 = 0 ∧ z_fold (x_st M d) L (M 11 13).toNat = L)) := by
  have hT0 := hT
  obtain ⟨g1, g2, g4⟩ := hT0
  refine b_loop_ind (I := fun t : Int × Int × bM => (0 ≤ t.2.1 ∧ t.2.1 ≤ M 11 13) ∧ (t.1 = 0 ∨ t.1 = 1) ∧ (∀ c j, c ≠ 168 → t.2.2 c j = M c j) ∧ (∀ p, 0 ≤ p → p < M 11 12 → t.2.2 168 p = z_fold (x_st M d) L t.2.1.toNat p) ∧ ((∀ k, 0 ≤ k → k < M 11 13 → M 164 k = 1 → M 167 k ≤ d → L (M 165 k) = L (M 166 k)) → t.1 = 0 ∧ z_fold (x_st M d) L t.2.1.toNat = L)) (fun t => (M 11 13 - t.2.1).toNat) ?_ (0, 0, M) ⟨by dsimp only; omega, Or.inl rfl, fun c j _ => rfl, hL, fun _ => ⟨rfl, rfl⟩⟩
  intro ⟨v, i, N⟩ ⟨h1, h5, h2, h3, h6⟩
  dsimp only at h1 h2 h3 h5 h6 ⊢
  unfold F_X12_makeOnes_s33
  have k12 := h2 11 12 (by decide)
  have k13 := h2 11 13 (by decide)
  have k164 := h2 164 i (by decide)
  have k165 := h2 165 i (by decide)
  have k166 := h2 166 i (by decide)
  have k167 := h2 167 i (by decide)
  rw [k13, k164, k165, k166, k167]
  by_cases q : M 11 13 ≤ i
  · refine b_Wt q (b_Ws ?_)
    rw [show i = M 11 13 by omega] at h3 h6
    exact ⟨h5, h2, h3, h6⟩
  · refine b_Wf q ?_
    have g5 := g4 i h1.1 (by omega)
    have hs : z_fold (x_st M d) L (i + 1).toNat = x_st M d i (z_fold (x_st M d) L i.toNat) := z_fold_s h1.1
    have skip : (M 164 i = 1 → M 167 i ≤ d → z_fold (x_st M d) L i.toNat (M 165 i) = z_fold (x_st M d) L i.toNat (M 166 i)) → b_wp (b_g (b_i32 (i + 1)) (some (Sum.inl (v, i + 1, N)) : Option ((Int × Int × bM) ⊕ (Int × bM)))) (Sum.elim (fun t : Int × Int × bM => ((0 ≤ t.2.1 ∧ t.2.1 ≤ M 11 13) ∧ (t.1 = 0 ∨ t.1 = 1) ∧ (∀ c j, c ≠ 168 → t.2.2 c j = M c j) ∧ (∀ p, 0 ≤ p → p < M 11 12 → t.2.2 168 p = z_fold (x_st M d) L t.2.1.toNat p) ∧ ((∀ k, 0 ≤ k → k < M 11 13 → M 164 k = 1 → M 167 k ≤ d → L (M 165 k) = L (M 166 k)) → t.1 = 0 ∧ z_fold (x_st M d) L t.2.1.toNat = L)) ∧ (M 11 13 - t.2.1).toNat < (M 11 13 - i).toNat) (fun o => (o.1 = 0 ∨ o.1 = 1) ∧ (∀ c j, c ≠ 168 → o.2 c j = M c j) ∧ (∀ p, 0 ≤ p → p < M 11 12 → o.2 168 p = z_fold (x_st M d) L (M 11 13).toNat p) ∧ ((∀ k, 0 ≤ k → k < M 11 13 → M 164 k = 1 → M 167 k ≤ d → L (M 165 k) = L (M 166 k)) → o.1 = 0 ∧ z_fold (x_st M d) L (M 11 13).toNat = L))) := by
      intro w
      have hs2 : z_fold (x_st M d) L (i + 1).toNat = z_fold (x_st M d) L i.toNat := by rw [hs, x_st_eq w]
      refine b_Wg (by omega) (b_Ws ⟨⟨by dsimp only; omega, h5, h2, fun p p0 p1 => ?_, fun w2 => ?_⟩, by dsimp only; omega⟩)
      · dsimp only
        rw [hs2]
        exact h3 p p0 p1
      · dsimp only
        rw [hs2]
        exact h6 w2
    refine b_Wg (by omega) (b_Wi (fun q1 => b_Wg (by omega) (b_Wi (fun q2 => ?_) (fun q2 => skip (fun _ z => absurd z q2)))) (fun q1 => skip (fun z => absurd z q1)))
    refine b_Wg (by omega) (b_Wl (b_Wg (by omega) (b_Wl ?_)))
    have r1 := h3 (M 165 i) (by omega) (by omega)
    have r2 := h3 (M 166 i) (by omega) (by omega)
    rw [r1, r2]
    refine b_Wi (fun q3 => skip (fun _ _ => q3)) (fun q3 => ?_)
    have done : b_wp (some (Sum.inl (1, i + 1, p_rl 168 (N 11 12) (max (z_fold (x_st M d) L i.toNat (M 165 i)) (z_fold (x_st M d) L i.toNat (M 166 i))) (min (z_fold (x_st M d) L i.toNat (M 165 i)) (z_fold (x_st M d) L i.toNat (M 166 i))) 0 N)) : Option ((Int × Int × bM) ⊕ (Int × bM))) (Sum.elim (fun t : Int × Int × bM => ((0 ≤ t.2.1 ∧ t.2.1 ≤ M 11 13) ∧ (t.1 = 0 ∨ t.1 = 1) ∧ (∀ c j, c ≠ 168 → t.2.2 c j = M c j) ∧ (∀ p, 0 ≤ p → p < M 11 12 → t.2.2 168 p = z_fold (x_st M d) L t.2.1.toNat p) ∧ ((∀ k, 0 ≤ k → k < M 11 13 → M 164 k = 1 → M 167 k ≤ d → L (M 165 k) = L (M 166 k)) → t.1 = 0 ∧ z_fold (x_st M d) L t.2.1.toNat = L)) ∧ (M 11 13 - t.2.1).toNat < (M 11 13 - i).toNat) (fun o => (o.1 = 0 ∨ o.1 = 1) ∧ (∀ c j, c ≠ 168 → o.2 c j = M c j) ∧ (∀ p, 0 ≤ p → p < M 11 12 → o.2 168 p = z_fold (x_st M d) L (M 11 13).toNat p) ∧ ((∀ k, 0 ≤ k → k < M 11 13 → M 164 k = 1 → M 167 k ≤ d → L (M 165 k) = L (M 166 k)) → o.1 = 0 ∧ z_fold (x_st M d) L (M 11 13).toNat = L))) := by
      refine b_Ws ⟨⟨by dsimp only; omega, Or.inr rfl, fun c j hc => ?_, fun p p0 p1 => ?_, fun w2 => ?_⟩, by dsimp only; omega⟩
      · dsimp only
        unfold p_rl
        rw [if_neg (fun z => hc z.1)]
        exact h2 c j hc
      · dsimp only
        rw [hs, x_st_v ⟨q1, q2⟩]
        unfold p_rl
        rw [k12, h3 p p0 p1]
        generalize z_fold (x_st M d) L i.toNat (M 165 i) = a
        generalize z_fold (x_st M d) L i.toNat (M 166 i) = b
        by_cases qb : z_fold (x_st M d) L i.toNat p = max a b
        · rw [if_pos qb, if_pos ⟨rfl, by omega, by omega, qb⟩]
        · rw [if_neg qb, if_neg (fun z => qb z.2.2.2)]
      · exfalso
        rw [(h6 w2).2] at q3
        exact q3 (w2 i (by omega) (by omega) q1 q2)
    refine b_Wi (fun q4 => ?_) (fun q4 => ?_)
    · rw [e_m114 (by omega) q3 (by omega) (by omega)]
      exact done
    · rw [e_m114 (by omega) q3 (by omega) (by omega)]
      exact done
theorem t_mk {d : Int} {M : bM} (hT : T_ok M) : b_wp (F_X12_makeOnes d M) (fun N => (∀ c j, c ≠ 168 → N c j = M c j) ∧ ∀ p, 0 ≤ p → p < M 11 12 → N 168 p = x_lab M d p) := by
  unfold F_X12_makeOnes
  refine b_We (e_mk2 hT.1) ?_
  unfold F_X12_makeOnes_b23 F_X12_makeOnes_b178
  generalize hN : p_id 168 (M 11 12) 0 M = N
  have f1 : ∀ c j, c ≠ 168 → N c j = M c j := by
    intro c j hc
    subst hN
    unfold p_id
    rw [if_neg (fun z => hc z.1)]
  have f2 : ∀ p, 0 ≤ p → p < N 11 12 → N 168 p = p := by
    intro p p0 p1
    rw [f1 11 12 (by decide)] at p1
    subst hN
    unfold p_id
    rw [if_pos ⟨rfl, p0, p1⟩]
  have cong : ∀ N2 : bM, (∀ c j, c ≠ 168 → N2 c j = M c j) → T_ok N2 ∧ x_st N2 d = x_st M d ∧ N2 11 12 = M 11 12 ∧ N2 11 13 = M 11 13 := by
    intro N2 h
    have e1 : N2 164 = M 164 := funext fun j => h _ _ (by decide)
    have e2 : N2 165 = M 165 := funext fun j => h _ _ (by decide)
    have e3 : N2 166 = M 166 := funext fun j => h _ _ (by decide)
    have e4 : N2 167 = M 167 := funext fun j => h _ _ (by decide)
    have e5 := h 11 12 (by decide)
    have e6 := h 11 13 (by decide)
    refine ⟨?_, ?_, e5, e6⟩
    · unfold T_ok
      rw [e1, e2, e3, e5, e6]
      exact hT
    · funext k L
      unfold x_st
      rw [e1, e2, e3, e4]
  obtain ⟨hT1, s1, n1, n2⟩ := cong N f1
  refine b_Wb (b_Wloop ?_)
  dsimp only
  unfold F_X12_makeOnes_s25
  refine b_Wf (by omega) (b_Wb (b_wp_m (fun o w => ?_) (t_m33 (d := d) hT1 f2)))
  obtain ⟨v, N2⟩ := o
  obtain ⟨w1, w2, w3, _⟩ := w
  dsimp only at w1 w2 w3 ⊢
  unfold F_X12_makeOnes_b175
  refine b_Ws ?_
  show b_wp _ _
  rw [s1, n2] at w3
  have w5 : ∀ c j, c ≠ 168 → N2 c j = M c j := fun c j hc => by rw [w2 c j hc, f1 c j hc]
  obtain ⟨hT2, s2, m1, m2⟩ := cong N2 w5
  refine b_Wloop ?_
  dsimp only
  refine b_Wi (fun q => b_Ws ?_) (fun q => ?_)
  · exact b_Ws ⟨w5, fun p p0 p1 => w3 p p0 (by omega)⟩
  · refine b_Wb (b_wp_m (fun o w => ?_) (t_m33 (d := d) (L := x_lab M d) hT2 (fun p p0 p1 => w3 p p0 (by omega))))
    obtain ⟨v2, N3⟩ := o
    obtain ⟨y1, y2, y3, y4⟩ := w
    dsimp only at y1 y2 y3 y4 ⊢
    rw [s2, m2] at y3 y4
    have y6 := y4 (fun k k0 k1 => by
      rw [w5 164 k (by decide), w5 165 k (by decide), w5 166 k (by decide), w5 167 k (by decide)]
      exact x_lb_s _ k k0 (by omega))
    obtain ⟨y7, y8⟩ := y6
    subst y7
    refine b_Ws ?_
    show b_wp _ _
    refine b_Wloop ?_
    dsimp only
    refine b_Wt rfl (b_Ws (b_Ws ⟨fun c j hc => by rw [y2 c j hc, w5 c j hc], fun p p0 p1 => ?_⟩))
    rw [y3 p p0 (by omega), y8]
theorem e_X12_deadOf {M : bM} {d p : Int} (hT : T_ok M) (hl : ∀ p, 0 ≤ p → p < M 11 12 → M 168 p = x_lab M d p) (hp : 0 ≤ p ∧ p < M 11 12) : F_X12_deadOf p d M = some (x_dea M d (x_lab M d p)) := by
  refine b_eqn ?_
  unfold F_X12_deadOf F_X12_deadOf_b86
  obtain ⟨g1, g2, g4⟩ := hT
  refine b_Wb (b_loop_ind (I := fun t : Int × Int => (0 ≤ t.2 ∧ t.2 ≤ M 11 13) ∧ t.1 = x_de M d (x_lab M d p) t.2.toNat) (fun t => (M 11 13 - t.2).toNat) ?_ (-1, 0) ⟨by dsimp only; omega, rfl⟩)
  intro ⟨b, i⟩ ⟨h1, h2⟩
  dsimp only at h1 h2 ⊢
  unfold F_X12_deadOf_s5 F_X12_deadOf_b72
  by_cases q : M 11 13 ≤ i
  · refine b_Wt q (b_Ws (b_Ws ?_))
    rw [h2, show i = M 11 13 by omega]
    rfl
  · refine b_Wf q ?_
    have g5 := g4 i h1.1 (by omega)
    have hs : x_de M d (x_lab M d p) (i + 1).toNat = x_ds M d (x_lab M d p) i b := by rw [h2]; exact z_fold_s h1.1
    have l1 := hl (M 165 i) (by omega) (by omega)
    have l2 := hl p hp.1 hp.2
    rw [l1, l2]
    unfold x_ds at hs
    (repeat' first | with_reducible refine b_Wg (by omega) ?_ | with_reducible refine b_Wi (fun _ => ?_) (fun _ => ?_) | with_reducible refine b_Wl ?_ | with_reducible refine b_Ws ?_)
    all_goals refine ⟨⟨by dsimp only; omega, ?_⟩, by dsimp only; omega⟩
    all_goals dsimp only
    all_goals rw [hs]
    · rw [if_neg (by omega)]
    · rw [if_pos (by refine ⟨by assumption, by omega, by assumption, Or.inl (by assumption)⟩)]
    · rw [if_neg (by omega)]
    · rw [if_pos (by refine ⟨by assumption, by omega, by assumption, Or.inr (by omega)⟩)]
    · rw [if_neg (fun z => by have := z.2.2.1; contradiction)]
    · rw [if_neg (fun z => by have := z.1; contradiction)]
theorem e_X12_isChild {M : bM} {d p c : Int} (hT : T_ok M) (hl : ∀ p, 0 ≤ p → p < M 11 12 → M 168 p = x_lab M d p) (hp : 0 ≤ p ∧ p < M 11 12) (hc : 0 ≤ c ∧ c < M 11 12) : b_wp (F_X12_isChild p c d M) (fun r => (r = 0 ∨ r = 1) ∧ (r = 1 ↔ x_chi M d (x_lab M d p) (x_lab M d c))) := by
  unfold F_X12_isChild F_X12_isChild_b84
  obtain ⟨g1, g2, g4⟩ := hT
  refine b_Wb (b_loop_ind (I := fun t : Int => (0 ≤ t ∧ t ≤ M 11 13) ∧ ¬ x_ch M d t (x_lab M d p) (x_lab M d c)) (fun t => (M 11 13 - t).toNat) ?_ 0 ⟨by omega, fun ⟨k, hk, _⟩ => by omega⟩)
  intro i ⟨h1, h2⟩
  unfold F_X12_isChild_s3
  by_cases q : M 11 13 ≤ i
  · refine b_Wt q (b_Ws ?_)
    rw [show i = M 11 13 by omega] at h2
    exact ⟨Or.inl rfl, fun z => absurd z (by decide), fun z => absurd z h2⟩
  · refine b_Wf q ?_
    have g5 := g4 i h1.1 (by omega)
    have l1 := hl (M 165 i) (by omega) (by omega)
    have l2 := hl p hp.1 hp.2
    have l3 := hl c hc.1 hc.2
    have hs := x_ch_s (M := M) (d := d) (g := x_lab M d p) (c := x_lab M d c) h1.1
    rw [l1, l2, l3]
    have skip : ¬ (M 164 i = 3 ∧ M 167 i ≤ d ∧ x_lab M d (M 165 i) = x_lab M d p ∧ x_lab M d (M 166 i) = x_lab M d c) → ((0 ≤ i + 1 ∧ i + 1 ≤ M 11 13) ∧ ¬ x_ch M d (i + 1) (x_lab M d p) (x_lab M d c)) ∧ (M 11 13 - (i + 1)).toNat < (M 11 13 - i).toNat := by
      intro z
      refine ⟨⟨by omega, fun w => ?_⟩, by omega⟩
      rcases hs.mp w with w | w
      · exact h2 w
      · exact z w
    refine b_Wg (by omega) (b_Wi (fun q1 => b_Wg (by omega) (b_Wi (fun q2 => b_Wg (by omega) (b_Ws (skip (fun z => absurd z.2.1 (by omega))))) (fun q2 => b_Wg (by omega) (b_Wi (fun q3 => ?_) (fun q3 => b_Wg (by omega) (b_Ws (skip (fun z => q3 z.2.2.1)))))))) (fun q1 => b_Wg (by omega) (b_Ws (skip (fun z => q1 z.1)))))
    have l4 := hl (M 166 i) (by omega) (by omega)
    rw [l4]
    refine b_Wg (by omega) (b_Wi (fun q4 => b_Ws ?_) (fun q4 => b_Wg (by omega) (b_Ws (skip (fun z => q4 z.2.2.2)))))
    refine ⟨Or.inr rfl, fun _ => ?_, fun _ => rfl⟩
    exact ⟨i, by omega, q1, by omega, q3, q4⟩
/-- what the reference's deadOn, one and names see -/
theorem T_ok_c {M N : bM} (h : T_ok M) (hf : ∀ c j, c ≠ 168 → N c j = M c j) : T_ok N := by
  unfold T_ok
  rw [hf 11 12 (by decide), hf 11 13 (by decide), show N 164 = M 164 from funext fun j => hf _ _ (by decide), show N 165 = M 165 from funext fun j => hf _ _ (by decide), show N 166 = M 166 from funext fun j => hf _ _ (by decide)]
  exact h
theorem x_168 {M N : bM} {d : Int} (hf : ∀ c j, c ≠ 168 → N c j = M c j) : x_lab N d = x_lab M d ∧ x_dea N d = x_dea M d ∧ ∀ g c, x_chi N d g c ↔ x_chi M d g c := by
  have hk : ∀ k, 0 ≤ k → k < M 11 13 → N 164 k = M 164 k ∧ N 165 k = M 165 k ∧ N 166 k = M 166 k ∧ N 167 k = M 167 k := fun k _ _ => ⟨hf _ _ (by decide), hf _ _ (by decide), hf _ _ (by decide), hf _ _ (by decide)⟩
  have h13 := hf 11 13 (by decide)
  exact ⟨x_lab_c h13 hk, x_dea_c h13 hk, x_chi_c h13 hk⟩
/-- the reference knows the day -/
def Ko (M : bM) (d : Int) : Prop := ∀ p, 0 ≤ p → p < M 11 12 → M 168 p = x_lab M d p
theorem t_mko {d : Int} {M : bM} (hT : T_ok M) : b_wp (F_X12_makeOnes d M) (fun N => (∀ c j, c ≠ 168 → N c j = M c j) ∧ T_ok N ∧ Ko N d) := by
  refine b_wp_m (fun N w => ⟨w.1, T_ok_c hT w.1, fun p p0 p1 => ?_⟩) (t_mk (d := d) hT)
  rw [(x_168 w.1).1]
  rw [w.1 11 12 (by decide)] at p1
  exact w.2 p p0 p1
theorem R_ppl_168 {M N : bM} (hf : ∀ c j, c ≠ 168 → N c j = M c j) (hR : R_ppl M) : R_ppl N := R_ppl_k (fun c i hi => hf c i (fun q => by subst q; revert hi; simp [b_ins, S_ppl])) hR
theorem R_know_168 {M N : bM} (hf : ∀ c j, c ≠ 168 → N c j = M c j) (hR : R_know M) : R_know N := R_know_k (fun c i hi => hf c i (fun q => by subst q; revert hi; simp [b_ins, S_know])) hR
theorem op_deadOn {p d : Int} {M : bM} (hR : R_ppl M) (hK : R_know M) : b_wp (F_X11_deadOn p d M) (fun o => b_wp (F_X12_deadOn p d o.2) (fun o2 => o.1 = o2.1 ∧ R_ppl o2.2 ∧ R_know o2.2)) := by
  have hg := hR.1
  unfold F_X11_deadOn F_X12_deadOn
  by_cases q : 0 ≤ p ∧ p < M 2 0
  · by_cases q2 : 0 ≤ d ∧ d ≤ 9999
    · refine b_We e_X8_has (b_Wf (by rw [b_01_0]; omega) (b_We e_X11_isDay (b_Wf (by rw [b_01_0]; omega) ?_)))
      refine b_Wb (b_wp_m (fun N w => ?_) (t_know hR hK q2.1))
      obtain ⟨w1, w2, w3, w4⟩ := w
      have hg2 := w2.1
      have s20 : N 2 0 = M 2 0 := w1 2 0 (by decide)
      have k1 := w4.1 p (by omega) (by omega)
      have hT := T_ok_of w2
      have r1 := x_lab_r (d := d) (p := p) hT (by omega)
      have k2 := w4.2.1 (x_lab N d p) (by omega) (by omega)
      unfold F_X8_deathOf
      refine b_Wb (b_We e_X8_has (b_Wf (by rw [b_01_0]; omega) ?_))
      rw [k1]
      refine b_Wg (by omega) (b_Ws (b_Ws ?_))
      dsimp only
      refine b_We (e_X12_isPerson (by omega)) (b_Wf (by rw [b_01_0]; omega) (b_We e_X12_isDay (b_Wf (by rw [b_01_0]; omega) ?_)))
      refine b_Wb (b_wp_m (fun N2 y => ?_) (t_mko (d := d) hT))
      obtain ⟨y1, y2, y3⟩ := y
      refine b_We (e_X12_deadOf y2 y3 (by rw [y1 11 12 (by decide)]; omega)) (b_Ws ⟨?_, R_ppl_168 y1 w2, R_know_168 y1 w3⟩)
      rw [k2, (x_168 y1).1, (x_168 y1).2.1]
    · refine b_We e_X8_has (b_Wf (by rw [b_01_0]; omega) (b_We e_X11_isDay (b_Wt (by rw [b_01_0]; omega) (b_Ws ?_))))
      dsimp only
      exact b_We (e_X12_isPerson (by omega)) (b_Wf (by rw [b_01_0]; omega) (b_We e_X12_isDay (b_Wt (by rw [b_01_0]; omega) (b_Ws ⟨rfl, hR, hK⟩))))
  · refine b_We e_X8_has (b_Wt (by rw [b_01_0]; omega) (b_Ws ?_))
    dsimp only
    exact b_We (e_X12_isPerson (by omega)) (b_Wt (by rw [b_01_0]; omega) (b_Ws ⟨rfl, hR, hK⟩))
theorem op_one {p c d : Int} {M : bM} (hR : R_ppl M) (hK : R_know M) : b_wp (F_X11_one p c d M) (fun o => b_wp (F_X12_one p c d o.2) (fun o2 => o.1 = o2.1 ∧ R_ppl o2.2 ∧ R_know o2.2)) := by
  have hg := hR.1
  unfold F_X11_one F_X12_one
  by_cases q : 0 ≤ p ∧ p < M 2 0
  · by_cases q1 : 0 ≤ c ∧ c < M 2 0
    · by_cases q2 : 0 ≤ d ∧ d ≤ 9999
      · refine b_We e_X8_has (b_Wf (by rw [b_01_0]; omega) (b_We e_X8_has (b_Wf (by rw [b_01_0]; omega) (b_We e_X11_isDay (b_Wf (by rw [b_01_0]; omega) ?_)))))
        refine b_Wb (b_wp_m (fun N w => ?_) (t_know hR hK q2.1))
        obtain ⟨w1, w2, w3, w4⟩ := w
        have hg2 := w2.1
        have s20 : N 2 0 = M 2 0 := w1 2 0 (by decide)
        have k1 := w4.1 p (by omega) (by omega)
        have k2 := w4.1 c (by omega) (by omega)
        have hT := T_ok_of w2
        have ref : ∀ r : Int, r = (if x_lab N d p = x_lab N d c then 1 else 0) → b_wp (F_X12_one p c d N) (fun o2 => r = o2.1 ∧ R_ppl o2.2 ∧ R_know o2.2) := by
          intro r hr
          unfold F_X12_one
          refine b_We (e_X12_isPerson (by omega)) (b_Wf (by rw [b_01_0]; omega) (b_We (e_X12_isPerson (by omega)) (b_Wf (by rw [b_01_0]; omega) (b_We e_X12_isDay (b_Wf (by rw [b_01_0]; omega) ?_)))))
          refine b_Wb (b_wp_m (fun N2 y => ?_) (t_mko (d := d) hT))
          obtain ⟨y1, y2, y3⟩ := y
          have z := y1 11 12 (by decide)
          have j1 := y3 p (by omega) (by omega)
          have j2 := y3 c (by omega) (by omega)
          rw [(x_168 y1).1] at j1 j2
          rw [j1, j2, hr]
          refine b_Wg (by omega) (b_Wi (fun z => b_Ws ⟨?_, R_ppl_168 y1 w2, R_know_168 y1 w3⟩) (fun z => b_Ws ⟨?_, R_ppl_168 y1 w2, R_know_168 y1 w3⟩))
          · rw [if_pos z]
          · rw [if_neg z]
        unfold F_X8_groupOf
        refine b_Wb (b_We e_X8_has (b_Wf (by rw [b_01_0]; omega) (b_Wg (by omega) (b_Ws ?_))))
        refine b_Wb (b_We e_X8_has (b_Wf (by rw [b_01_0]; omega) (b_Wg (by omega) (b_Ws ?_))))
        rw [k1, k2]
        refine b_Wi (fun z => b_Ws ?_) (fun z => b_Ws ?_)
        · exact ref 1 (by rw [if_pos z])
        · exact ref 0 (by rw [if_neg z])
      · refine b_We e_X8_has (b_Wf (by rw [b_01_0]; omega) (b_We e_X8_has (b_Wf (by rw [b_01_0]; omega) (b_We e_X11_isDay (b_Wt (by rw [b_01_0]; omega) (b_Ws ?_))))))
        dsimp only
        exact b_We (e_X12_isPerson (by omega)) (b_Wf (by rw [b_01_0]; omega) (b_We (e_X12_isPerson (by omega)) (b_Wf (by rw [b_01_0]; omega) (b_We e_X12_isDay (b_Wt (by rw [b_01_0]; omega) (b_Ws ⟨rfl, hR, hK⟩))))))
    · refine b_We e_X8_has (b_Wf (by rw [b_01_0]; omega) (b_We e_X8_has (b_Wt (by rw [b_01_0]; omega) (b_Ws ?_))))
      dsimp only
      exact b_We (e_X12_isPerson (by omega)) (b_Wf (by rw [b_01_0]; omega) (b_We (e_X12_isPerson (by omega)) (b_Wt (by rw [b_01_0]; omega) (b_Ws ⟨rfl, hR, hK⟩))))
  · refine b_We e_X8_has (b_Wt (by rw [b_01_0]; omega) (b_Ws ?_))
    dsimp only
    exact b_We (e_X12_isPerson (by omega)) (b_Wt (by rw [b_01_0]; omega) (b_Ws ⟨rfl, hR, hK⟩))
theorem op_names {d : Int} {M : bM} (hR : R_ppl M) (hK : R_know M) : b_wp (F_X11_names d M) (fun o => b_wp (F_X12_names d o.2) (fun o2 => o.1 = o2.1 ∧ R_ppl o2.2 ∧ R_know o2.2)) := by
  have hg := hR.1
  unfold F_X11_names F_X12_names
  by_cases q2 : 0 ≤ d ∧ d ≤ 9999
  · refine b_We e_X11_isDay (b_Wf (by rw [b_01_0]; omega) ?_)
    refine b_Wb (b_wp_m (fun N w => ?_) (t_know hR hK q2.1))
    obtain ⟨w1, w2, w3, w4⟩ := w
    have hT := T_ok_of w2
    have w2b := w2
    obtain ⟨g1, ⟨e1, e2, e3, e4, e5⟩, g3, g4⟩ := w2b
    refine b_We (e_X8_quarrels (by omega) (fun t t0 t1 t2 => ?_)) (b_Ws ?_)
    · have := g4 t t0 t1
      omega
    · dsimp only
      refine b_We e_X12_isDay (b_Wf (by rw [b_01_0]; omega) ?_)
      refine b_Wb (b_wp_m (fun N2 y => ?_) (t_mko (d := d) hT))
      obtain ⟨y1, y2, y3⟩ := y
      have z := y1 11 12 (by decide)
      have z3 := y1 11 13 (by decide)
      have a4 := y1 164
      refine b_We (e_nml (by omega) (fun t t0 t1 t2 => ?_)) ?_
      · have := y2.2.2 t t0 (by omega)
        omega
      · unfold F_X12_names_b86
        refine b_Ws ⟨?_, R_ppl_168 y1 w2, R_know_168 y1 w3⟩
        dsimp only
        rw [show N2 11 13 = N 2 1 by omega]
        refine b_sm_c _ _ (fun j j0 j1 => ?_)
        have h5 := g4 j j0 j1
        unfold p_qc p_qm
        refine b_01_c ?_
        rw [y1 164 j (by decide), y1 165 j (by decide), y1 166 j (by decide), y1 167 j (by decide), e2, e3, e4, e5]
        constructor
        · intro ⟨u1, u2, u3⟩
          refine ⟨u1, u2, ?_⟩
          have v1 := y3 (N 78 j) (by omega) (by omega)
          have v2 := y3 (N 79 j) (by omega) (by omega)
          rw [v1, v2, (x_168 y1).1, ← w4.1 _ (by omega) (by omega), ← w4.1 _ (by omega) (by omega)]
          exact u3
        · intro ⟨u1, u2, u3⟩
          refine ⟨u1, u2, ?_⟩
          have v1 := y3 (N 78 j) (by omega) (by omega)
          have v2 := y3 (N 79 j) (by omega) (by omega)
          rw [v1, v2, (x_168 y1).1, ← w4.1 _ (by omega) (by omega), ← w4.1 _ (by omega) (by omega)] at u3
          exact u3
  · refine b_We e_X11_isDay (b_Wt (by rw [b_01_0]; omega) (b_Ws ?_))
    dsimp only
    exact b_We e_X12_isDay (b_Wt (by rw [b_01_0]; omega) (b_Ws ⟨rfl, hR, hK⟩))
