theorem t_worthOf {W : bW} {N Q : bM} {d c a : Int} {F : Int → Int} (hs : Sr N d (N 148 c) (N 147 c) a F) (f : b_fr W N Q) (h1 : b_dis W S_C = true) (h2 : b_dis W S_chain = true) (h3 : b_dis W [(2, some 0)] = true) (h4 : b_dis W [(11, some 11), (231, none), (232, none)] = true) (hC : C_all N) (hG : G_all N d) (hd : 0 ≤ d ∧ d ≤ 9999) (hc : 0 ≤ c ∧ c < 30) (hl : 0 ≤ N 148 c ∧ N 148 c < N 3 0) (hp : 0 ≤ N 147 c ∧ N 147 c < N 2 0) (e1 : N 231 = N 147) (e2 : N 232 = N 148) (e3 : N 11 11 = d) : b_wp (F_X12_worthOf c Q) (fun o => b_fr W_X12_worthOf Q o.2 ∧ o.1 = Wo N d (N 148 c) (N 147 c) a F ∧ o.2 239 c = Wg a F ∧ o.2 240 c = Ww a F ∧ ∀ j, j ≠ c → o.2 239 j = Q 239 j ∧ o.2 240 j = Q 240 j) := by
  refine b_wl_wp (w_X12_worthOf b_fr_refl) ?_
  have k4 := b_kp1 f h4
  have q11 : Q 11 11 = d := (k4 11 11 rfl).trans e3
  have q231 : Q 231 c = N 147 c := (k4 231 c rfl).trans (by rw [e1])
  have q232 : Q 232 c = N 148 c := (k4 232 c rfl).trans (by rw [e2])
  have hCQ := C_k f h1 hC
  have gsQ : GS N Q := b_kp1 f h2
  have n3 : Q 3 0 = N 3 0 := gsQ 3 0 rfl
  have n2 : Q 2 0 = N 2 0 := b_kp1 f h3 2 0 rfl
  unfold F_X12_worthOf
  refine b_Wg hc ?_
  rw [q231, q232, q11]
  refine b_Wb (b_wp_m (fun o k => ?_) (t_mkC hs f h1 h2 h3 hC hG hl hp))
  obtain ⟨x, O⟩ := o
  obtain ⟨k1, k2⟩ := k
  dsimp only at k1 k2
  have o239 : ∀ j, O 239 j = Q 239 j := fun j => k1 239 j (by simp [b_ins, W_X12_makeChain])
  have o240 : ∀ j, O 240 j = Q 240 j := fun j => k1 240 j (by simp [b_ins, W_X12_makeChain])
  have ce : ∀ R : bM, b_fr W_X12_worthOf Q R → E_all R ∧ P_all R ∧ SS N R ∧ (∀ l, R 174 l = N 174 l) ∧ R 11 11 = d ∧ R 231 c = N 147 c ∧ R 232 c = N 148 c ∧ R 3 0 = N 3 0 ∧ R 2 0 = N 2 0 := fun R g => by
    have hc2 := C_k g (by decide +kernel) hCQ
    have gs : GS Q R := b_kp1 g (by decide +kernel)
    exact ⟨hc2.1, hc2.2.2.1, fun z i hi => (GS_ss gs z i hi).trans (GS_ss gsQ z i hi), fun l => (gs 174 l rfl).trans (gsQ 174 l rfl), (g 11 11 (by decide)).trans q11, (g 231 c (by simp [b_ins, W_X12_worthOf])).trans q231, (g 232 c (by simp [b_ins, W_X12_worthOf])).trans q232, (g 3 0 (by decide)).trans n3, (g 2 0 (by decide)).trans n2⟩
  have rule : ∀ R : bM, b_fr W_X12_worthOf Q R → ∀ i, 0 ≤ i ∧ i ≤ 10 → F_X12_ruleOn (R 11 11) i R = some (x_rule N d i) := by
    intro R g i hi
    have w := ce R g
    rw [w.2.2.2.2.1, e_X12_ruleOn w.1.2.2.2.2.2.2.1 hi, sp_rule w.2.2.1]
  have b114 : ∀ R : bM, b_fr W_X12_worthOf Q R → b_wp (F_X12_worthOf_b114 c R) (fun o => o.1 = (if x_hd N d (N 148 c) (N 147 c) (d / 365 + 1).toNat < x_rule N d 5 then 3 else 2) ∧ ∀ z j, z ≠ 208 → z ≠ 168 → o.2 z j = R z j) := by
    intro R g
    obtain ⟨m1, m2, m3, m4, m5, m6, m7, m8, m9⟩ := ce R g
    unfold F_X12_worthOf_b114
    refine b_Wg hc ?_
    rw [m5, m6, m7, i_div_e (by omega) (by omega)]
    refine b_Wb (b_wp_m (fun o v => ?_) (t_heldOf (d := d) (l := N 148 c) (p := N 147 c) (y := d / 365) m1 m2 (by omega) (by omega) (by omega)))
    obtain ⟨y, T⟩ := o
    obtain ⟨v1, v2⟩ := v
    dsimp only at v1 v2
    rw [x_hd_c m3 (m4 _)] at v1
    have gT : b_fr W_X12_worthOf Q T := fun z j hj => by
      rw [v2 z j (fun q => by subst q; revert hj; simp [b_ins, W_X12_worthOf]) (fun q => by subst q; revert hj; simp [b_ins, W_X12_worthOf])]
      exact g z j hj
    refine b_Wtwo (b_We (rule T gT 5 (by decide)) (b_Wi (fun q => b_Ws ⟨?_, v2⟩) (fun q => b_Ws ⟨?_, v2⟩)))
    · rw [← v1, if_pos q]
    · rw [← v1, if_neg q]
  have fO : b_fr W_X12_worthOf Q O := b_fr_mo (by decide +kernel) k1
  have fin : ∀ g w, g = Wg a F → w = Ww a F → b_wp (F_X12_worthOf_b57 c x c w (b_up O 239 c g)) (fun o => o.1 = Wo N d (N 148 c) (N 147 c) a F ∧ o.2 239 c = Wg a F ∧ o.2 240 c = Ww a F ∧ ∀ j, j ≠ c → o.2 239 j = Q 239 j ∧ o.2 240 j = Q 240 j) := by
    intro g w hg hw
    unfold F_X12_worthOf_b57
    refine b_Wg hc (b_Wl ?_)
    generalize hR : b_up (b_up O 239 c g) 240 c w = R
    have fR : b_fr W_X12_worthOf Q R := by
      subst hR
      exact b_frA (b_frA fO (by decide)) (by decide)
    have r239 : ∀ j, R 239 j = if j = c then g else Q 239 j := fun j => by subst hR; rw [b_upc (by decide), b_upJ, o239]
    have r240 : ∀ j, R 240 j = if j = c then w else Q 240 j := fun j => by subst hR; rw [b_upJ, b_upc (by decide), o240]
    have r84 : R 11 84 = O 11 84 ∧ R 11 85 = O 11 85 := by subst hR; exact ⟨by rw [b_upc (by decide), b_upc (by decide)], by rw [b_upc (by decide), b_upc (by decide)]⟩
    clear hR
    have out : ∀ y T, y = Wo N d (N 148 c) (N 147 c) a F → (∀ z j, z ≠ 208 → z ≠ 168 → T z j = R z j) → ((y, T) : Int × bM).1 = Wo N d (N 148 c) (N 147 c) a F ∧ ((y, T) : Int × bM).2 239 c = Wg a F ∧ ((y, T) : Int × bM).2 240 c = Ww a F ∧ ∀ j, j ≠ c → ((y, T) : Int × bM).2 239 j = Q 239 j ∧ ((y, T) : Int × bM).2 240 j = Q 240 j := by
      intro y T hy hT
      dsimp only
      refine ⟨hy, ?_, ?_, fun j hj => ⟨?_, ?_⟩⟩
      · rw [hT _ _ (by decide) (by decide), r239, if_pos rfl]; exact hg
      · rw [hT _ _ (by decide) (by decide), r240, if_pos rfl]; exact hw
      · rw [hT _ _ (by decide) (by decide), r239, if_neg hj]
      · rw [hT _ _ (by decide) (by decide), r240, if_neg hj]
    have out3 : ¬ (a ≠ -1 ∧ F 0 ≤ x_rule N d 3 ∧ x_rule N d 1 ≤ F 1) → ¬ (a ≠ -1 ∧ F 0 ≤ x_rule N d 3 ∧ x_rule N d 2 ≤ F 1) → b_wp (F_X12_worthOf_b114 c R) (fun o => o.1 = Wo N d (N 148 c) (N 147 c) a F ∧ o.2 239 c = Wg a F ∧ o.2 240 c = Ww a F ∧ ∀ j, j ≠ c → o.2 239 j = Q 239 j ∧ o.2 240 j = Q 240 j) := by
      intro n1 n2
      refine b_wp_m (fun o z => ?_) (b114 R fR)
      obtain ⟨y, T⟩ := o
      dsimp only at z
      exact out y T (by rw [z.1, Wo_3 n1 n2]) z.2
    rcases k2 with ⟨k3, k5⟩ | k3
    · exact b_Wt k3 (out3 (fun z => z.1 k5) (fun z => z.1 k5))
    · obtain ⟨v1, v2, v3, v4, v5, v6, _⟩ := k3
      refine b_Wf (by omega) (b_We (rule R fR 3 (by decide)) ?_)
      rw [r84.1, r84.2, v5, v6]
      refine b_Wi (fun q => out3 (fun z => by have := z.2.1; omega) (fun z => by have := z.2.1; omega)) (fun q => b_We (rule R fR 1 (by decide)) (b_Wi (fun q2 => b_We (rule R fR 2 (by decide)) (b_Wi (fun q3 => ?_) (fun q3 => b_Ws ?_))) (fun q2 => b_Ws ?_)))
      · exact out3 (fun z => by have := z.2.2; omega) (fun z => by have := z.2.2; omega)
      · refine out 2 R ?_ (fun _ _ _ _ => rfl)
        unfold Wo
        rw [if_neg (fun z => by have := z.2.2; omega), if_pos ⟨v2, by omega, by omega⟩]
      · refine out 1 R ?_ (fun _ _ _ _ => rfl)
        unfold Wo
        rw [if_pos ⟨v2, by omega, by omega⟩]
  unfold F_X12_worthOf_b39
  refine b_Wtwo (b_Wi (fun q => ?_) (fun q => ?_))
  · have qa : a = -1 := by
      rcases k2 with k3 | k3
      · exact k3.2
      · have := k3.1; omega
    exact b_Wg hc (b_Wl (b_Wt q (fin 99 0 (if_pos qa).symm (if_pos qa).symm)))
  · have k3 := k2.resolve_left (fun z => q z.1)
    refine b_Wg hc (b_Wl (b_Wf q ?_))
    rw [b_upc (by decide)]
    refine fin _ _ ?_ ?_
    · dsimp only; rw [k3.2.2.2.2.1]; exact (if_neg k3.2.1).symm
    · dsimp only; rw [k3.2.2.2.2.2.1]; exact (if_neg k3.2.1).symm
/-- LOTS and persons that CLAIMS name are known -/
def S_cref : bW := [(2, some 0), (3, some 0), (9, some 0), (147, none), (148, none)]
def R_cref (M : bM) : Prop := ∀ c, 0 ≤ c → c < M 9 0 → (0 ≤ M 147 c ∧ M 147 c < M 2 0) ∧ (0 ≤ M 148 c ∧ M 148 c < M 3 0)
theorem R_cref_k {M N : bM} (h : ∀ c i, b_ins S_cref c i = true → N c i = M c i) (hR : R_cref M) : R_cref N := by
  intro c c0 c1
  rw [h 9 0 rfl] at c1
  rw [h 2 0 rfl, h 3 0 rfl, h 147 c rfl, h 148 c rfl]
  exact hR c c0 c1
theorem op_worth {c : Int} {M : bM} (hC : C_all M) (hD : R_day M) (hcl : R_claim M) (hcr : R_cref M) : b_wp (F_X11_worth c M) (fun o => b_wp (F_X12_worth c o.2) (fun o2 => o.1 = o2.1 ∧ C_all o2.2)) := by
  have c1 := hcl.1
  unfold F_X11_worth F_X12_worth
  by_cases q : 0 ≤ c ∧ c < M 9 0
  · refine b_We e_X3_has (b_Wf (by rw [b_01_0]; omega) (b_Wb (b_wp_m (fun N w => ?_) (t_evC hC hD.2))))
    obtain ⟨y1, y2, y3⟩ := w
    have n3 : N 3 0 = M 3 0 := y1 3 0 (by decide)
    have n2 : N 2 0 = M 2 0 := y1 2 0 (by decide)
    have n10 : N 0 10 = M 0 10 := y1 0 10 (by decide)
    have hDN : R_day N := R_day_k (b_kp1 y1 (by decide +kernel)) hD
    have hclN : R_claim N := R_claim_k (b_kp1 y1 (by decide +kernel)) hcl
    have hcrN : R_cref N := R_cref_k (b_kp1 y1 (by decide +kernel)) hcr
    have n9 : N 9 0 = M 9 0 := y1 9 0 (by decide)
    have r := hcrN c q.1 (by omega)
    rw [← n10] at y3
    have hd := hDN.2
    have c2 := hclN.1
    refine b_Wb (b_wp_m (fun o z => ?_) (t_appraise (c := c) y2 y3 hDN.2 (by omega) r.2 r.1))
    obtain ⟨x, P⟩ := o
    obtain ⟨z1, a, F, z2, z3, _, _⟩ := z
    dsimp only at z1 z3
    refine b_Wtwo (b_Ws ?_)
    dsimp only
    have p106 : P 11 106 = N 11 106 := z1 11 106 (by decide)
    refine b_Wg (by unfold b_i32; omega) (b_We e_X12_in (b_Wf (by rw [b_01_0]; omega) (b_Wb (b_wp_m (fun o v => ?_) (t_worthOf z2 z1 (by decide +kernel) (by decide +kernel) (by decide +kernel) (by decide +kernel) y2 y3 hDN.2 (by omega) r.2 r.1 hclN.2.1.1 hclN.2.1.2.1 hDN.1)))))
    obtain ⟨x2, O⟩ := o
    obtain ⟨v1, v2, _⟩ := v
    dsimp only at v1 v2
    exact b_Wtwo (b_Ws ⟨by dsimp only; rw [z3, v2], C_k v1 (by decide +kernel) (C_k z1 (by decide +kernel) y2)⟩)
  · refine b_We e_X3_has (b_Wt (by rw [b_01_0]; omega) (b_Ws ?_))
    dsimp only
    exact b_Wg (by unfold b_i32; omega) (b_We e_X12_in (b_Wt (by rw [b_01_0]; omega) (b_Ws ⟨rfl, hC⟩)))
