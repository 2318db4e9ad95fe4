def W_re : bW := [(11, some 107), (234, none), (235, none), (236, none)]
theorem t_openEnd {N Q : bM} {d l win B : Int} (cQ : C_all Q) (ss : SS N Q) (hl : 0 ≤ l ∧ l < 60) (n9 : 0 ≤ Q 11 106 ∧ Q 11 106 ≤ 30) (hw : Q 236 l = win) (hwr : 0 ≤ win ∧ win < 30) (hco : 0 ≤ Q 11 107 ∧ Q 11 107 ≤ 9999999) (h235 : 0 ≤ Q 235 win ∧ Q 235 win ≤ B) (hB : B ≤ 1000000000) (hd : Q 11 11 = d) : b_wp (F_X12_open_b97 l 1 Q) (fun o => o.1 = 1 ∧ b_fr W_re Q o.2 ∧ o.2 11 107 = Q 11 107 - min (x_rule N d 9) (Q 11 107) ∧ (∀ c, o.2 234 c = if 0 ≤ c ∧ c < Q 11 106 ∧ Q 232 c = l then 0 else Q 234 c) ∧ (∀ c, o.2 235 c = if c = win then Q 235 win + min (x_rule N d 9) (Q 11 107) else Q 235 c) ∧ ∀ i, o.2 236 i = if i = l then -1 else Q 236 i) := by
  have r9 := x_rule_r (d := d) (i := 9) cQ.1.2.2.2.2.2.2.1 (by decide)
  rw [sp_rule ss] at r9
  have rl : F_X12_ruleOn (Q 11 11) 9 Q = some (x_rule N d 9) := by
    rw [hd, e_X12_ruleOn cQ.1.2.2.2.2.2.2.1 (by omega), sp_rule ss]
  unfold F_X12_open_b97
  refine b_Wf (by decide) (b_We rl (b_We E_X12_lesser ?_))
  generalize hy : min (x_rule N d 9) (Q 11 107) = y
  have hyr : 0 ≤ y ∧ y ≤ 9999 := by omega
  have hyr2 : y ≤ Q 11 107 := by omega
  refine b_Wg (by omega) (b_Wl ?_)
  rw [show (b_up Q 11 107 (Q 11 107 - y)) 236 l = win from (b_upc (by decide)).trans hw, show (b_up Q 11 107 (Q 11 107 - y)) 235 win = Q 235 win from b_upc (by decide)]
  refine b_Wg (by omega) (b_Wl ?_)
  generalize hU : b_up (b_up Q 11 107 (Q 11 107 - y)) 235 win (Q 235 win + y) = U
  have fU : b_fr W_re Q U := by
    subst hU
    exact b_frA (b_frF b_fr_refl (by decide)) (by decide)
  have u107 : U 11 107 = Q 11 107 - y := by subst hU; rw [b_upc (by decide), b_ups]
  have u235 : ∀ c, U 235 c = if c = win then Q 235 win + y else Q 235 c := fun c => by
    subst hU; rw [b_upJ, b_upc (by decide)]
  have u234 : ∀ c, U 234 c = Q 234 c := fun c => by subst hU; rw [b_upc (by decide), b_upc (by decide)]
  have u236 : ∀ c, U 236 c = Q 236 c := fun c => by subst hU; rw [b_upc (by decide), b_upc (by decide)]
  clear hU
  have u9 : U 11 106 = Q 11 106 := fU 11 106 (by decide)
  have u232 : ∀ c, U 232 c = Q 232 c := fun c => fU 232 c (by simp [b_ins, W_re])
  refine b_Wb (b_wp_m (fun O z => ?_) (t_clrR (l := l) (P := U) (by omega)))
  obtain ⟨z1, z2⟩ := z
  unfold F_X12_open_b183
  refine b_Wg hl (b_Wl (b_Ws ⟨rfl, fun c i hi => ?_, ?_, fun c => ?_, fun c => ?_, fun i => ?_⟩))
  · dsimp only
    rw [b_upc (fun z => by subst z; revert hi; simp [b_ins, W_re]), z1 c i (fun z => by subst z; revert hi; simp [b_ins, W_re])]
    exact fU c i hi
  · dsimp only
    rw [b_upc (by decide), z1 11 107 (by decide), u107]
  · dsimp only
    rw [b_upc (by decide), z2, u9, u232, u234]
  · dsimp only
    rw [b_upc (by decide), z1 235 c (by decide), u235]
  · dsimp only
    rw [b_upJ, z1 236 i (by decide), u236]
theorem t_openR {W : bW} {N Q0 : bM} {d l win : Int} {K : Int × bM → Prop} (f : b_fr W N Q0) (f1 : b_dis W S_C = true) (f2 : b_dis W S_chain = true) (f3 : b_dis W [(2, some 0)] = true) (f4 : b_dis W [(11, some 11), (231, none), (232, none)] = true) (f5 : b_dis W [(11, some 106), (236, none)] = true) (hC : C_all N) (hG : G_all N d) (hd : 0 ≤ d ∧ d ≤ 9999) (hf : L_rf N) (hcl : R_claim N) (hdy : N 11 11 = d) (hll : 0 ≤ l ∧ l < 60) (hw : N 236 l = win) (hwr : 0 ≤ win ∧ win < N 9 0) (hw148 : N 148 win = l) (hk : ∀ Q flag, b_fr W_X12_worthOf Q0 Q → ((flag = 1 ∧ Ro N d l win (N 9 0)) ∨ (flag = 0 ∧ ¬ Ro N d l win (N 9 0))) → b_wp (F_X12_open_b97 l flag Q) K) : b_wp (b_bind (F_X12_worthOf win Q0) (fun t => b_two t (fun x6 M7 => if x6 = 3 then (F_X12_open_b41 l 1 M7) else (F_X12_open_b41 l 0 M7)))) K := by
  have hl := hC.1.2.2.1.1.1
  have n9 := hf.1
  have hcr := hf.2.1 win hwr.1 hwr.2
  obtain ⟨a, F, hs⟩ := Wn_e (c := win) hC hG hcr.2 hcr.1
  refine b_Wb (b_wp_m (fun o z => ?_) (t_worthOf hs f f1 f2 f3 f4 hC hG hd (by omega) hcr.2 hcr.1 hcl.2.1.1 hcl.2.1.2.1 hdy))
  obtain ⟨x, P⟩ := o
  obtain ⟨z1, z2, _, _, _⟩ := z
  dsimp only at z1 z2
  have hwn : Wn N d win x (Wg a F) (Ww a F) := ⟨a, F, hs, z2, rfl, rfl⟩
  clear hs z2
  have go : ∀ u0, ((u0 = 1 ∧ Ro N d l win (N 9 0)) ∨ (u0 = 0 ∧ ∀ x g w, Wn N d win x g w → x ≠ 3)) → b_wp (F_X12_open_b41 l u0 P) K := by
    intro u0 hu
    unfold F_X12_open_b41
    refine b_Wb (b_wp_m (fun o k => ?_) (t_openLoop (fr_app z1 f) (b_disW (by decide +kernel) f1) (b_disW (by decide +kernel) f2) (b_disW (by decide +kernel) f3) (b_disW (by decide +kernel) f4) (b_disW (by decide +kernel) f5) hC hG hd hf hcl hdy hll hw hwr hw148 hu))
    exact hk o.2 o.1 (b_fr_tr z1 k.1) k.2
  refine b_Wtwo (b_Wi (fun q => go 1 (Or.inl ⟨rfl, win, x, _, _, hwr, hw148, hwn, Or.inl ⟨rfl, q⟩⟩)) (fun q => go 0 (Or.inr ⟨rfl, fun x' g w h => ?_⟩)))
  obtain ⟨e, _, _⟩ := Wn_u hl hwn h
  rw [← e]; exact q
theorem isDoubt_c {N R : bM} {l : Int} (h11 : R 11 11 = N 11 11) (h1 : R 234 = N 234) (h2 : R 236 = N 236) (h3 : R 237 = N 237) (h4 : R 238 = N 238) : F_X12_isDoubt l R = F_X12_isDoubt l N := by
  unfold F_X12_isDoubt
  rw [h11, h1, h2, h3, h4]
theorem op_open {l B : Int} {M : bM} (hC : C_all M) (hD : R_day M) (hcl : R_claim M) (hcr : R_cref M) (hru : R_rul M) (hco : R_coin M) (hB : B ≤ 1000000000) (hM : ∀ c, 0 ≤ c → c < 30 → M 151 c ≤ B) : b_wp (F_X11_open l M) (fun o => b_wp (F_X12_open l o.2) (fun o2 => o.1 = o2.1 ∧ C_all o2.2 ∧ R_rul o2.2 ∧ R_coin o2.2 ∧ ∀ c, 0 ≤ c → c < 30 → o2.2 151 c ≤ B + 9999)) := by
  have l1 := hC.1.2.2.1.1
  have c1 := hcl.1
  unfold F_X11_open F_X12_open
  by_cases q : 0 ≤ l ∧ l < M 3 0
  · by_cases qd : x_dbt M l
    · refine b_We e_X5_has (b_Wf (by rw [b_01_0]; omega) (b_We (e_X3_isDoubtful hru hcl hD (by omega)) (b_Wf (by rw [b_01_0]; exact fun z => z qd) (b_Wb (b_wp_m (fun N w => ?_) (t_evC hC hD.2))))))
      obtain ⟨y1, y2, y3⟩ := w
      have n3 : N 3 0 = M 3 0 := y1 3 0 (by decide)
      have n10 : N 0 10 = M 0 10 := y1 0 10 (by decide)
      have hDN : R_day N := R_day_k (b_kp1 y1 (by decide +kernel)) hD
      have hclN : R_claim N := R_claim_k (b_kp1 y1 (by decide +kernel)) hcl
      have hcrN : R_cref N := R_cref_k (b_kp1 y1 (by decide +kernel)) hcr
      have hruN : R_rul N := R_rul_k (b_kp1 y1 (by decide +kernel)) hru
      have hcoN : R_coin N := R_coin_k (b_kp1 y1 (by decide +kernel)) hco
      have hf := L_rf_of hclN hcrN
      have l2 := y2.1.2.2.1.1
      rw [← n10] at y3
      have n151 : ∀ c, N 151 c = M 151 c := fun c => y1 151 c (by simp [b_ins, W_X4_know])
      have e234 : N 234 = M 234 := funext fun i => y1 234 i (by simp [b_ins, W_X4_know])
      have e236 : N 236 = M 236 := funext fun i => y1 236 i (by simp [b_ins, W_X4_know])
      have e237 : N 237 = M 237 := funext fun i => y1 237 i (by simp [b_ins, W_X4_know])
      have e238 : N 238 = M 238 := funext fun i => y1 238 i (by simp [b_ins, W_X4_know])
      have e11 : N 11 11 = M 11 11 := y1 11 11 (by decide)
      have qdN : x_dbt N l := by
        unfold x_dbt at qd ⊢
        rw [e234, e236, e237, e238, e11]
        exact qd
      have ruN := (hruN.2 l q.1 (by omega)).resolve_left (fun z => qdN.1 z.2)
      obtain ⟨win, hwin⟩ : ∃ win, win = N 152 l - 1 := ⟨_, rfl⟩
      have w236 : N 236 l = win := by rw [ruN.2.1, hwin]
      have w148 : N 148 win = l := by rw [hwin]; exact ruN.2.2.2.2.2.2
      have wr : 0 ≤ win ∧ win < N 9 0 := by have := ruN.1; omega
      have wp := hruN.1 win wr.1 (by have := hf.1; omega)
      have n9 := hf.1
      unfold F_X3_mustReopen
      refine b_Wb ?_
      unfold F_X3_winnerOf
      refine b_Wb (b_Wg (by have := ruN.1; omega) (b_Ws ?_))
      rw [← hwin]
      refine b_Wb (b_wp_m (fun o z => ?_) (t_must (l := l) (win := win) y2 y3 hDN.2 hf))
      rcases o with P | ⟨x, P⟩
      · obtain ⟨z1, z2⟩ := z
        unfold F_X3_mustReopen_b58
        refine b_Ws (b_Wtwo (b_Wt rfl (b_Ws ?_)))
        dsimp only
        have p3 : P 3 0 = N 3 0 := z1 3 0 (by decide)
        have p20 : P 11 20 = N 11 20 := z1 11 20 (by decide)
        have p236 : P 236 l = win := (z1 236 l (by simp [b_ins, W_X3_appraise])).trans w236
        have dd : F_X12_isDoubt l P = some (b_01 (x_dbt N l)) := by
          rw [isDoubt_c (N := N) (z1 11 11 (by decide)) (funext fun i => z1 234 i (by simp [b_ins, W_X3_appraise])) (funext fun i => z1 236 i (by simp [b_ins, W_X3_appraise])) (funext fun i => z1 237 i (by simp [b_ins, W_X3_appraise])) (funext fun i => z1 238 i (by simp [b_ins, W_X3_appraise]))]
          exact e_X12_isDoubt hruN hclN hDN (by omega)
        refine b_We (e_X12_isLot (by omega)) (b_Wf (by rw [b_01_0]; omega) (b_We dd (b_Wf (by rw [b_01_0]; exact fun z => z qdN) (b_Wg (by omega) ?_))))
        rw [p236]
        refine t_openR z1 (by decide +kernel) (by decide +kernel) (by decide +kernel) (by decide +kernel) (by decide +kernel) y2 y3 hDN.2 hf hclN hDN.1 (by omega) w236 wr w148 (fun Q flag k1 k2 => ?_)
        have k3 := k2.resolve_left (fun z => z2 z.2)
        unfold F_X12_open_b97
        refine b_Wt k3.1 (b_Ws ⟨rfl, C_k k1 (by decide +kernel) (C_k z1 (by decide +kernel) y2), R_rul_k (b_kp1 k1 (by decide +kernel)) (R_rul_k (b_kp1 z1 (by decide +kernel)) hruN), R_coin_k (b_kp1 k1 (by decide +kernel)) (R_coin_k (b_kp1 z1 (by decide +kernel)) hcoN), fun c c0 c1 => ?_⟩)
        dsimp only
        have := hM c c0 c1
        rw [k1 151 c (by simp [b_ins, W_X12_worthOf]), z1 151 c (by simp [b_ins, W_X3_appraise]), n151]
        omega
      · obtain ⟨z1, z0, z2⟩ := z
        dsimp only at z1 z0
        subst z0
        refine b_Ws (b_Wtwo (b_Wf (show ¬ (1 : Int) = 0 by decide) ?_))
        dsimp only
        have p10 : P 0 10 = N 0 10 := z1 0 10 (by decide)
        have p9 : P 9 0 = N 9 0 := z1 9 0 (by decide)
        have p91 : P 9 1 = N 9 1 := z1 9 1 (by decide)
        have p152 : ∀ i, P 152 i = N 152 i := fun i => z1 152 i (by simp [b_ins, W_X3_appraise])
        have p151 : ∀ i, P 151 i = N 151 i := fun i => z1 151 i (by simp [b_ins, W_X3_appraise])
        have p150 : ∀ i, P 150 i = N 150 i := fun i => z1 150 i (by simp [b_ins, W_X3_appraise])
        have p148 : ∀ i, P 148 i = N 148 i := fun i => z1 148 i (by simp [b_ins, W_X3_appraise])
        have cP := C_k z1 (by decide +kernel) y2
        have ssP : SS N P := b_kp1 z1 (by decide +kernel)
        have hcN := hcoN.2
        have hMw := hM win wr.1 (by omega)
        rw [p10]
        refine b_Wb (b_wp_m (fun o k => ?_) (t_reopen (d := N 0 10) (l := l) (win := win) (B := B) cP.1.2.2.2.2.2.2.1 (by omega) (by omega) (by rw [p152]; omega) (by omega) (by omega) (by rw [p151, n151]; have := wp.2.2.2; rw [n151] at this; omega) hB))
        obtain ⟨x, R⟩ := o
        obtain ⟨k0, k1, k2, k3, k4, k5⟩ := k
        dsimp only at k0 k1 k2 k3 k4 k5
        refine b_Wtwo (b_Ws ?_)
        dsimp only
        have fR := fr_app k1 z1
        have r3 : R 3 0 = N 3 0 := fR 3 0 (by decide)
        have r20 : R 11 20 = N 11 20 := fR 11 20 (by decide)
        have r236 : ∀ i, R 236 i = N 236 i := fun i => fR 236 i (by simp [b_ins, W_X3_appraise, W_ro])
        have r234 : ∀ i, R 234 i = N 234 i := fun i => fR 234 i (by simp [b_ins, W_X3_appraise, W_ro])
        have r235 : ∀ i, R 235 i = N 235 i := fun i => fR 235 i (by simp [b_ins, W_X3_appraise, W_ro])
        have r237 : ∀ i, R 237 i = N 237 i := fun i => fR 237 i (by simp [b_ins, W_X3_appraise, W_ro])
        have r238 : ∀ i, R 238 i = N 238 i := fun i => fR 238 i (by simp [b_ins, W_X3_appraise, W_ro])
        have r232 : ∀ i, R 232 i = N 232 i := fun i => fR 232 i (by simp [b_ins, W_X3_appraise, W_ro])
        have dd : F_X12_isDoubt l R = some (b_01 (x_dbt N l)) := by
          rw [isDoubt_c (N := N) (fR 11 11 (by decide)) (funext r234) (funext r236) (funext r237) (funext r238)]
          exact e_X12_isDoubt hruN hclN hDN (by omega)
        refine b_We (e_X12_isLot (by omega)) (b_Wf (by rw [b_01_0]; omega) (b_We dd (b_Wf (by rw [b_01_0]; exact fun z => z qdN) (b_Wg (by omega) ?_))))
        rw [r236, w236]
        refine t_openR fR (by decide +kernel) (by decide +kernel) (by decide +kernel) (by decide +kernel) (by decide +kernel) y2 y3 hDN.2 hf hclN hDN.1 (by omega) w236 wr w148 (fun Q flag j1 j2 => ?_)
        have j3 := (j2.resolve_right (fun z => z.2 z2)).1
        rw [j3]
        have fQ := fr_app j1 fR
        have q106 : Q 11 106 = N 11 106 := fQ 11 106 (by decide)
        have q107 : Q 11 107 = N 11 107 := fQ 11 107 (by decide)
        have cl1 := hclN.1
        have q236 : ∀ i, Q 236 i = N 236 i := fun i => (j1 236 i (by simp [b_ins, W_X12_worthOf])).trans (r236 i)
        have q234 : ∀ i, Q 234 i = N 234 i := fun i => (j1 234 i (by simp [b_ins, W_X12_worthOf])).trans (r234 i)
        have q235 : ∀ i, Q 235 i = N 235 i := fun i => (j1 235 i (by simp [b_ins, W_X12_worthOf])).trans (r235 i)
        have q237 : ∀ i, Q 237 i = N 237 i := fun i => (j1 237 i (by simp [b_ins, W_X12_worthOf])).trans (r237 i)
        have q238 : ∀ i, Q 238 i = N 238 i := fun i => (j1 238 i (by simp [b_ins, W_X12_worthOf])).trans (r238 i)
        have q232 : ∀ i, Q 232 i = N 148 i := fun i => by rw [j1 232 i (by simp [b_ins, W_X12_worthOf]), r232, hclN.2.1.2.1]
        refine b_wp_m (fun o t => ?_) (t_openEnd (N := N) (d := N 0 10) (l := l) (win := win) (B := B) (C_k fQ (by decide +kernel) y2) (b_kp1 fQ (by decide +kernel)) (by omega) (by omega) (by rw [q236, w236]) (by omega) (by rw [q107, hcoN.1]; omega) (by rw [q235, wp.2.2.1, n151]; have := wp.2.2.2; rw [n151] at this; omega) hB (by rw [fQ 11 11 (by decide), hDN.1]))
        obtain ⟨x2, T⟩ := o
        obtain ⟨t0, t1, t2, t3, t4, t5⟩ := t
        dsimp only at t0 t1 t2 t3 t4 t5 ⊢
        have fT : ∀ c i, b_ins W_re c i = false → b_ins W_X12_worthOf c i = false → T c i = R c i := fun c i a1 a2 => (t1 c i a1).trans (j1 c i a2)
        have rule : x_rule P (N 0 10) 9 = x_rule N (N 0 10) 9 := by rw [sp_rule ssP]
        rw [rule] at k2 k4
        have mm : min (P 9 1) (x_rule N (N 0 10) 9) = min (x_rule N (N 0 10) 9) (Q 11 107) := by rw [p91, q107, hcoN.1]; exact Int.min_comm _ _
        refine ⟨by rw [k0, t0], C_k t1 (by decide +kernel) (C_k fQ (by decide +kernel) y2), ⟨fun c c0 c1 => ?_, fun i i0 i1 => ?_⟩, ⟨?_, ?_⟩, fun c c0 c1 => ?_⟩
        · have h := hruN.1 c c0 c1
          rw [t3, t4, fT 150 c (by simp [b_ins, W_re]) (by simp [b_ins, W_X12_worthOf]), fT 151 c (by simp [b_ins, W_re]) (by simp [b_ins, W_X12_worthOf]), k3, k4, q106, cl1.1, q232, q234, q235, q235, p9, p148, p150, p151, p151, mm, h.1, h.2.2.1, wp.2.2.1]
          refine ⟨rfl, ?_, rfl, ?_⟩
          · split
            · decide
            · exact h.2.1
          · have r9 := x_rule_r (d := N 0 10) (i := 9) y2.1.2.2.2.2.2.2.1 (by decide)
            have := h.2.2.2
            have := wp.2.2.2
            split
            · omega
            · omega
        · have h := hruN.2 i i0 i1
          rw [t5, fT 152 i (by simp [b_ins, W_re]) (by simp [b_ins, W_X12_worthOf]), k5, q236, p152, fT 9 0 (by decide) (by decide), k1 9 0 (by decide), p9, fT 237 i (by simp [b_ins, W_re]) (by simp [b_ins, W_X12_worthOf]), r237, fT 153 i (by simp [b_ins, W_re]) (by simp [b_ins, W_X12_worthOf]), fR 153 i (by simp [b_ins, W_ro, W_X3_appraise]), fT 154 i (by simp [b_ins, W_re]) (by simp [b_ins, W_X12_worthOf]), fR 154 i (by simp [b_ins, W_ro, W_X3_appraise]), fT 238 i (by simp [b_ins, W_re]) (by simp [b_ins, W_X12_worthOf]), r238, fT 148 _ (by simp [b_ins, W_re]) (by simp [b_ins, W_X12_worthOf]), fR 148 _ (by simp [b_ins, W_ro, W_X3_appraise])]
          by_cases qi : i = l
          · rw [if_pos qi, if_pos qi]
            exact Or.inl ⟨rfl, rfl⟩
          · rw [if_neg qi, if_neg qi]
            exact h
        · rw [t2, fT 9 1 (by decide) (by decide), k2, mm, q107, hcoN.1, p91]
        · have r9 := x_rule_r (d := N 0 10) (i := 9) y2.1.2.2.2.2.2.2.1 (by decide)
          rw [fT 9 1 (by decide) (by decide), k2, p91]
          omega
        · have r9 := x_rule_r (d := N 0 10) (i := 9) y2.1.2.2.2.2.2.2.1 (by decide)
          have := hM c c0 c1
          rw [fT 151 c (by simp [b_ins, W_re]) (by simp [b_ins, W_X12_worthOf]), k4, p151, p151, n151, n151]
          split
          · omega
          · omega
    · refine b_We e_X5_has (b_Wf (by rw [b_01_0]; omega) (b_We (e_X3_isDoubtful hru hcl hD (by omega)) (b_Wt (by rw [b_01_0]; exact qd) (b_Ws ?_))))
      dsimp only
      exact b_We (e_X12_isLot (by omega)) (b_Wf (by rw [b_01_0]; omega) (b_We (e_X12_isDoubt hru hcl hD (by omega)) (b_Wt (by rw [b_01_0]; exact qd) (b_Ws ⟨rfl, hC, hru, hco, fun c c0 c1 => by have := hM c c0 c1; dsimp only; omega⟩))))
  · refine b_We e_X5_has (b_Wt (by rw [b_01_0]; omega) (b_Ws ?_))
    dsimp only
    exact b_We (e_X12_isLot (by omega)) (b_Wt (by rw [b_01_0]; omega) (b_Ws ⟨rfl, hC, hru, hco, fun c c0 c1 => by have := hM c c0 c1; dsimp only; omega⟩))
