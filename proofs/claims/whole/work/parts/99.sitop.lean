theorem L_rf_of {M : bM} (h1 : R_claim M) (h2 : R_cref M) : L_rf M := ⟨h1.1.2, h2, fun c c0 c1 => (h1.2.2 c c0 c1).2.2⟩
theorem t_sitEnd {N P Q : bM} {d l n b v : Int} (hC : C_all N) (hd : 0 ≤ d ∧ d ≤ 9999) (hl : 0 ≤ l ∧ l < 60) (n9 : 0 ≤ N 9 0 ∧ N 9 0 ≤ 30) (hru : R_rul N) (hdy : N 11 11 = d) (fP : b_fr W_X3_hear N P) (fQ : b_fr W_sr P Q) (hb : Hb N d l (N 9 0).toNat n b v) (p150 : ∀ c, 0 ≤ c → P 150 c = if c = b then v else if 0 ≤ c ∧ c < N 9 0 ∧ Hd N d l c then 3 else N 150 c) (pr : (b = -1 ∧ ∀ i, P 152 i = N 152 i ∧ P 153 i = N 153 i ∧ P 154 i = N 154 i) ∨ (b ≠ -1 ∧ ∀ i, P 152 i = (if i = l then b + 1 else N 152 i) ∧ P 153 i = (if i = l then d else N 153 i) ∧ P 154 i = (if i = l then x_rule N d 6 * 365 else N 154 i))) (q234 : ∀ c, 0 ≤ c → c < 30 → Q 234 c = if 0 ≤ c ∧ c < N 9 0 ∧ Hd N d l c then 3 else N 150 c) : b_wp (F_X12_sit_b211 l n b v Q) (fun o => o.1 = n ∧ C_all o.2 ∧ R_rul o.2) := by
  have hr := (Hb_r _ _ _ _ hb).2
  have cQ : C_all Q := C_k fQ (by decide +kernel) (C_k fP (by decide +kernel) hC)
  have q9 : Q 9 0 = N 9 0 := by rw [fQ 9 0 (by decide), fP 9 0 (by decide)]
  have q148 : ∀ i, Q 148 i = N 148 i := fun i => by rw [fQ 148 i (by simp [b_ins, W_sr, W_X12_worthOf]), fP 148 i (by simp [b_ins, W_X3_hear])]
  have q151 : ∀ i, Q 151 i = N 151 i := fun i => by rw [fQ 151 i (by simp [b_ins, W_sr, W_X12_worthOf]), fP 151 i (by simp [b_ins, W_X3_hear])]
  have q235 : ∀ i, Q 235 i = N 235 i := fun i => by rw [fQ 235 i (by simp [b_ins, W_sr, W_X12_worthOf]), fP 235 i (by simp [b_ins, W_X3_hear])]
  have q236 : ∀ i, Q 236 i = N 236 i := fun i => by rw [fQ 236 i (by simp [b_ins, W_sr, W_X12_worthOf]), fP 236 i (by simp [b_ins, W_X3_hear])]
  have q237 : ∀ i, Q 237 i = N 237 i := fun i => by rw [fQ 237 i (by simp [b_ins, W_sr, W_X12_worthOf]), fP 237 i (by simp [b_ins, W_X3_hear])]
  have q238 : ∀ i, Q 238 i = N 238 i := fun i => by rw [fQ 238 i (by simp [b_ins, W_sr, W_X12_worthOf]), fP 238 i (by simp [b_ins, W_X3_hear])]
  have q150 : ∀ i, Q 150 i = P 150 i := fun i => fQ 150 i (by simp [b_ins, W_sr, W_X12_worthOf])
  have q152 : ∀ i, Q 152 i = P 152 i := fun i => fQ 152 i (by simp [b_ins, W_sr, W_X12_worthOf])
  have q153 : ∀ i, Q 153 i = P 153 i := fun i => fQ 153 i (by simp [b_ins, W_sr, W_X12_worthOf])
  have q154 : ∀ i, Q 154 i = P 154 i := fun i => fQ 154 i (by simp [b_ins, W_sr, W_X12_worthOf])
  have q11 : Q 11 11 = d := by rw [fQ 11 11 (by decide), fP 11 11 (by decide), hdy]
  unfold F_X12_sit_b211
  refine b_Wi (fun qb => ?_) (fun qb => ?_)
  · have pr1 := (pr.resolve_right (fun z => z.1 qb)).2
    refine b_Ws ⟨rfl, cQ, fun c c0 c1 => ?_, fun i i0 i1 => ?_⟩
    · dsimp only
      have h := hru.1 c c0 c1
      have e := p150 c c0
      rw [if_neg (by omega)] at e
      rw [q234 c c0 c1, q150, e, q151, q235]
      refine ⟨rfl, ?_, h.2.2⟩
      split
      · decide
      · exact h.2.1
    · dsimp only
      have h := hru.2 i i0 i1
      have e := pr1 i
      rw [q152, q153, q154, q236, q237, q238, q9, q148, e.1, e.2.1, e.2.2]
      exact h
  · have pr1 := (pr.resolve_left (fun z => qb z.1)).2
    have hr1 := hr.resolve_left (fun z => qb z.1)
    clear hr pr
    refine b_Wg (by omega) (b_Wl (b_Wg (by omega) (b_Wl (b_Wg (by omega) (b_Wl ?_)))))
    generalize hU : b_up (b_up (b_up Q 234 b v) 236 l b) 237 l (b_up (b_up Q 234 b v) 236 l b 11 11) = U
    have fU : b_fr [(234, none), (236, none), (237, none)] Q U := by
      subst hU
      exact b_frA (b_frA (b_frA b_fr_refl (by decide)) (by decide)) (by decide)
    have u234 : ∀ c, U 234 c = if c = b then v else Q 234 c := fun c => by
      subst hU; rw [b_upc (by decide), b_upc (by decide), b_upJ]
    have u236 : ∀ c, U 236 c = if c = l then b else Q 236 c := fun c => by
      subst hU; rw [b_upc (by decide), b_upJ, b_upc (by decide)]
    have u237 : ∀ c, U 237 c = if c = l then d else Q 237 c := fun c => by
      subst hU; rw [b_upJ, b_upc (by decide), b_upc (by decide), b_upc (by decide), b_upc (by decide), q11]
    clear hU
    have cU : C_all U := C_k fU (by decide +kernel) cQ
    have u11 : U 11 11 = d := by rw [fU 11 11 (by decide), q11]
    have ss : SS N U := fun c i hi => ((b_kp1 fU (by decide +kernel) c i hi).trans (b_kp1 fQ (by decide +kernel) c i hi)).trans (b_kp1 fP (by decide +kernel) c i hi)
    have rl : F_X12_ruleOn (U 11 11) 6 U = some (x_rule N d 6) := by
      rw [u11, e_X12_ruleOn cU.1.2.2.2.2.2.2.1 (by omega), sp_rule ss]
    have h6 := x_rule_r (d := d) (i := 6) hC.1.2.2.2.2.2.2.1 (by decide)
    have h62 := h6.2.2 rfl
    refine b_We rl (b_Wg (by omega) (b_Wl ?_))
    generalize hV : b_up U 238 l (x_rule N d 6) = V
    have fV : b_fr [(238, none)] U V := by
      subst hV
      exact b_frA b_fr_refl (by decide)
    have v238 : ∀ c, V 238 c = if c = l then x_rule N d 6 else Q 238 c := fun c => by
      subst hV; rw [b_upJ, fU 238 c (by simp [b_ins])]
    clear hV
    have fr : ∀ c i, c ≠ 234 → c ≠ 236 → c ≠ 237 → c ≠ 238 → V c i = Q c i := fun c i a1 a2 a3 a4 => by
      rw [fV c i (by simp [b_ins]; omega), fU c i (by simp [b_ins]; omega)]
    refine b_Ws ⟨rfl, C_k fV (by decide +kernel) cU, fun c c0 c1 => ?_, fun i i0 i1 => ?_⟩
    · dsimp only
      have h := hru.1 c c0 c1
      have e := p150 c c0
      rw [fV 234 c (by simp [b_ins]), u234, fr 150 c (by decide) (by decide) (by decide) (by decide), fr 151 c (by decide) (by decide) (by decide) (by decide), fr 235 c (by decide) (by decide) (by decide) (by decide), q234 c c0 c1, q150, e, q151, q235]
      refine ⟨rfl, ?_, h.2.2⟩
      split
      · have := hr1.2.2; omega
      · split
        · decide
        · exact h.2.1
    · dsimp only
      have h := hru.2 i i0 i1
      have e := pr1 i
      rw [fV 236 i (by simp [b_ins]), fV 237 i (by simp [b_ins]), u236, u237, v238, fr 152 i (by decide) (by decide) (by decide) (by decide), fr 153 i (by decide) (by decide) (by decide) (by decide), fr 154 i (by decide) (by decide) (by decide) (by decide), fr 9 0 (by decide) (by decide) (by decide) (by decide), fr 148 _ (by decide) (by decide) (by decide) (by decide), q152, q153, q154, q236, q237, q238, q9, q148, e.1, e.2.1, e.2.2]
      by_cases qi : i = l
      · subst qi
        rw [if_pos rfl, if_pos rfl, if_pos rfl, if_pos rfl, if_pos rfl, if_pos rfl]
        have hh := hr1.2.1.1
        refine Or.inr ⟨by omega, by omega, rfl, hd, by omega, ⟨h6.1, h62⟩, ?_⟩
        rw [show b + 1 - 1 = b by omega]
        exact hh
      · rw [if_neg qi, if_neg qi, if_neg qi, if_neg qi, if_neg qi, if_neg qi]
        exact h
theorem op_sit {l : Int} {M : bM} (hC : C_all M) (hD : R_day M) (hcl : R_claim M) (hcr : R_cref M) (hru : R_rul M) : b_wp (F_X11_sit l M) (fun o => b_wp (F_X12_sit l o.2) (fun o2 => o.1 = o2.1 ∧ C_all o2.2 ∧ R_rul o2.2)) := by
  have l1 := hC.1.2.2.1.1
  unfold F_X11_sit F_X12_sit
  by_cases q : 0 ≤ l ∧ l < M 3 0
  · have ru := hru.2 l q.1 (by omega)
    unfold F_X3_isRuled
    by_cases q2 : M 152 l = 0
    · refine b_We e_X5_has (b_Wf (by rw [b_01_0]; omega) (b_Wb (b_Wg (by omega) (b_Wt (by omega) (b_Ws (b_Wt rfl (b_Wb (b_wp_m (fun N w => ?_) (t_evC hC hD.2)))))))))
      obtain ⟨y1, y2, y3⟩ := w
      have n3 : N 3 0 = M 3 0 := y1 3 0 (by decide)
      have n10 : N 0 10 = M 0 10 := y1 0 10 (by decide)
      have n152 : N 152 l = M 152 l := y1 152 l (by simp [b_ins, W_X4_know])
      have hDN : R_day N := R_day_k (b_kp1 y1 (by decide +kernel)) hD
      have hclN : R_claim N := R_claim_k (b_kp1 y1 (by decide +kernel)) hcl
      have hcrN : R_cref N := R_cref_k (b_kp1 y1 (by decide +kernel)) hcr
      have hruN : R_rul N := R_rul_k (b_kp1 y1 (by decide +kernel)) hru
      have hf := L_rf_of hclN hcrN
      have l2 := y2.1.2.2.1.1
      rw [← n10] at y3
      refine b_Wb (b_wp_m (fun o z => ?_) (t_hear (l := l) y2 y3 hDN.2 hf (by omega)))
      obtain ⟨n, P⟩ := o
      obtain ⟨z1, b, v, z2, z3, z4⟩ := z
      dsimp only at z1 z2 z3 z4
      refine b_Wtwo (b_Ws ?_)
      dsimp only
      have p3 : P 3 0 = N 3 0 := z1 3 0 (by decide)
      have p20 : P 11 20 = N 11 20 := z1 11 20 (by decide)
      have p236 : P 236 l = N 236 l := z1 236 l (by simp [b_ins, W_X3_hear])
      have ruN := hruN.2 l q.1 (by omega)
      have e236 : N 236 l = -1 := by
        rcases ruN with z | z
        · exact z.2
        · have := z.1; omega
      refine b_We (e_X12_isLot (by omega)) (b_Wf (by rw [b_01_0]; omega) (b_Wg (by omega) (b_Wt (by omega) (b_Wb (b_wp_m (fun o k => ?_) (t_sitLoop (l := l) z1 (by decide +kernel) (by decide +kernel) (by decide +kernel) (by decide +kernel) (by decide +kernel) y2 y3 hDN.2 hf hclN hruN hDN.1))))))
      obtain ⟨n', b', v', Q⟩ := o
      obtain ⟨k1, k2, k3⟩ := k
      dsimp only at k1 k2 k3 ⊢
      obtain ⟨e1, e2, e3⟩ := Hb_u y2.1.2.2.1.1.1 _ _ _ _ _ _ _ z2 k2
      subst e1 e2 e3
      exact b_wp_m (fun o w => ⟨w.1.symm, w.2⟩) (t_sitEnd y2 hDN.2 (by omega) hf.1 hruN hDN.1 z1 k1 z2 z3 z4 k3)
    · have ru2 := ru.resolve_left (fun z => q2 z.1)
      refine b_We e_X5_has (b_Wf (by rw [b_01_0]; omega) (b_Wb (b_Wg (by omega) (b_Wf (by omega) (b_Ws (b_Wf (by decide) (b_Ws ?_)))))))
      dsimp only
      exact b_We (e_X12_isLot (by omega)) (b_Wf (by rw [b_01_0]; omega) (b_Wg (by omega) (b_Wf (by omega) (b_Ws ⟨rfl, hC, hru⟩))))
  · refine b_We e_X5_has (b_Wt (by rw [b_01_0]; omega) (b_Ws ?_))
    dsimp only
    exact b_We (e_X12_isLot (by omega)) (b_Wt (by rw [b_01_0]; omega) (b_Ws ⟨rfl, hC, hru⟩))
