/-- the reference: what s adds to LINK b -/
theorem t_gainR {N O : bM} {s v2 b p u : Int} (hP : R_place N) (h18 : O 11 118 = N 10 0) (h242 : ∀ i, O 242 i = N 156 i) (h243 : ∀ i, O 243 i = N 157 i) (hp : 0 ≤ p ∧ p ≤ 1100000) : b_wp (b_loop (fun t : Int × Int => F_X12_isSureWith_s92 s v2 b t.1 u t.2 O) (p, 0)) (fun x => x = p + (if u = 0 then 0 else x_gn N s b (N 10 0).toNat)) := by
  have p1 := hP.1
  refine b_loop_ind (I := fun t : Int × Int => (0 ≤ t.2 ∧ t.2 ≤ N 10 0) ∧ t.1 = p + (if u = 0 then 0 else x_gn N s b t.2.toNat)) (fun t => (N 10 0 - t.2).toNat) ?_ (p, 0) ⟨by dsimp only; omega, ?_⟩
  · intro ⟨v, k⟩ ⟨h1, h2⟩
    dsimp only at h1 h2 ⊢
    unfold F_X12_isSureWith_s92 F_X12_isSureWith_b139 F_X12_isSureWith_b140
    rw [h18]
    refine b_Wi (fun q => b_Ws ?_) (fun q => b_Wi (fun q1 => b_Ws ?_) (fun q1 => ?_))
    · have e : k = N 10 0 := by omega
      rw [← e]; exact h2
    · show v = _
      rw [h2, if_pos q1, if_pos q1]
    have r := x_gn_r (s := s) (b := b) hP k.toNat (by omega)
    have st := x_gn_s (M := N) (s := s) (b := b) h1.1
    have pk := hP.2.2 k h1.1 (by omega)
    rw [if_neg q1] at h2
    rw [i_bt_shr (by omega), h242, h243]
    by_cases qb : i_bt s k.toNat = true
    · rw [if_pos qb]
      by_cases qe : N 156 k = b
      · rw [if_pos ⟨qb, qe⟩] at st
        refine b_Wt rfl (b_Wg (by omega) (b_Wt qe (b_Wg (by omega) (b_Wg (by omega) (b_Ws ⟨⟨by dsimp only; omega, ?_⟩, by dsimp only; omega⟩)))))
        dsimp only
        rw [if_neg q1, st]; omega
      · rw [if_neg (fun z => qe z.2)] at st
        refine b_Wt rfl (b_Wg (by omega) (b_Wf qe (b_Wg (by omega) (b_Ws ⟨⟨by dsimp only; omega, ?_⟩, by dsimp only; omega⟩))))
        dsimp only
        rw [if_neg q1, st]; omega
    · rw [if_neg qb]
      rw [if_neg (fun z => qb z.1)] at st
      refine b_Wf (by decide) (b_Wg (by omega) (b_Ws ⟨⟨by dsimp only; omega, ?_⟩, by dsimp only; omega⟩))
      dsimp only
      rw [if_neg q1, st]; omega
  · dsimp only
    show p = p + (if u = 0 then 0 else (0 : Int))
    split <;> omega
/-- the reference's board after a CHAIN was made, for isSureWith -/
def Bs (N : bM) (d : Int) (F : Int → Int) (O : bM) : Prop := (O 11 84 = F 0 ∧ O 11 86 = F 2 ∧ ∀ i, 0 ≤ i → i < F 2 → O 219 i = F (4 + i)) ∧ (O 11 118 = N 10 0 ∧ (∀ i, O 242 i = N 156 i) ∧ ∀ i, O 243 i = N 157 i) ∧ (∀ b, 0 ≤ b → b < N 6 0 → O 209 (3 * b) = N 126 (10 * b) ∧ O 209 (3 * b + 1) = N 126 (10 * b + 1) ∧ O 209 (3 * b + 2) = N 126 (10 * b + 2) ∧ F_X12_pointsOf b O = some (N 126 (10 * b + 8))) ∧ ∀ i, 0 ≤ i ∧ i ≤ 10 → F_X12_ruleOn (O 11 11) i O = some (x_rule N d i)
theorem t_sureWith {N O : bM} {d s : Int} {F : Int → Int} (hG : G_all N d) (hP : R_place N) (hB : Bs N d F O) (h2 : 0 ≤ F 2 ∧ F 2 ≤ 8) (hl : ∀ i, 0 ≤ i → i < F 2 → 0 ≤ F (4 + i) ∧ F (4 + i) < N 6 0) : b_wp (F_X12_isSureWith s O) (fun x => (x = 0 ∧ ¬ Sm N d s F) ∨ (x = 1 ∧ Sm N d s F)) := by
  obtain ⟨⟨b1, b2, b3⟩, ⟨b4, b5, b6⟩, b7, b8⟩ := hB
  have n6 := hG.1.2.2.2.2.2.2.2.2
  unfold F_X12_isSureWith
  rw [b1]
  refine b_We (b8 3 (by decide)) (b_Wi (fun q => b_Wb (b_wp_m (fun o z => ?_) (b_loop_ind (P := Sum.elim (fun _ : Unit => ∀ i, 0 ≤ i → i < F 2 → x_rule N d 1 ≤ N 126 (10 * F (4 + i) + 8) + (if 0 < N 126 (10 * F (4 + i) + 8) then x_gn N s (F (4 + i)) (N 10 0).toNat else 0)) (fun x : Int => x = 0 ∧ ¬ Sm N d s F)) (I := fun k : Int => (0 ≤ k ∧ k ≤ F 2) ∧ ∀ i, 0 ≤ i → i < k → x_rule N d 1 ≤ N 126 (10 * F (4 + i) + 8) + (if 0 < N 126 (10 * F (4 + i) + 8) then x_gn N s (F (4 + i)) (N 10 0).toNat else 0)) (fun k => (F 2 - k).toNat) ?_ 0 ⟨by omega, fun i i0 i1 => by omega⟩))) (fun q => b_Ws (Or.inl ⟨rfl, fun z => q z.1⟩)))
  · rcases o with u | x
    · show b_wp (F_X12_isSureWith_b171 O) _
      unfold F_X12_isSureWith_b171
      rw [b2]
      refine b_Wi (fun q1 => b_Ws (Or.inr ⟨rfl, q, z, fun y => by omega⟩)) (fun q1 => b_We (b8 1 (by decide)) (b_Wi (fun q2 => b_Ws (Or.inl ⟨rfl, fun y => ?_⟩)) (fun q2 => b_Ws (Or.inr ⟨rfl, q, z, fun y => by omega⟩))))
      have := y.2.2 (by omega)
      omega
    · exact b_Ws (Or.inl z)
  · intro k ⟨h1, h3⟩
    unfold F_X12_isSureWith_s20
    rw [b2]
    refine b_Wi (fun a => b_Ws (fun i i0 i1 => h3 i i0 (by omega))) (fun a => b_Wg (by omega) (b_Wl ?_))
    have lk := hl k h1.1 (by omega)
    rw [b3 k h1.1 (by omega)]
    obtain ⟨c0, c1, c2, c3⟩ := b7 _ lk.1 lk.2
    have pos := g_p_pos hG lk
    have up := g_p_up hG lk
    have lo := (G_rr hG lk).2.2.2.2.2
    have n6b := n6.2
    have fin : ∀ u, (u = 0 ↔ ¬ 0 < N 126 (10 * F (4 + k) + 8)) → b_wp (F_X12_isSureWith_b87 s k (F (4 + k)) (N 126 (10 * F (4 + k) + 8)) u O) (Sum.elim (fun k2 : Int => ((0 ≤ k2 ∧ k2 ≤ F 2) ∧ ∀ i, 0 ≤ i → i < k2 → x_rule N d 1 ≤ N 126 (10 * F (4 + i) + 8) + (if 0 < N 126 (10 * F (4 + i) + 8) then x_gn N s (F (4 + i)) (N 10 0).toNat else 0)) ∧ (F 2 - k2).toNat < (F 2 - k).toNat) (Sum.elim (fun _ : Unit => ∀ i, 0 ≤ i → i < F 2 → x_rule N d 1 ≤ N 126 (10 * F (4 + i) + 8) + (if 0 < N 126 (10 * F (4 + i) + 8) then x_gn N s (F (4 + i)) (N 10 0).toNat else 0)) (fun x : Int => x = 0 ∧ ¬ Sm N d s F))) := by
      intro u hu
      unfold F_X12_isSureWith_b87
      refine b_Wb (b_wp_m (fun x z => ?_) (t_gainR hP b4 b5 b6 (by omega)))
      have ez : x = N 126 (10 * F (4 + k) + 8) + (if 0 < N 126 (10 * F (4 + k) + 8) then x_gn N s (F (4 + k)) (N 10 0).toNat else 0) := by
        rw [z]
        by_cases qu : u = 0
        · rw [if_pos qu, if_neg (hu.mp qu)]
        · rw [if_neg qu, if_pos (Decidable.of_not_not (fun y => qu (hu.mpr y)))]
      unfold F_X12_isSureWith_b149
      refine b_We (b8 1 (by decide)) (b_Wi (fun q1 => b_Wg (by omega) (b_Ws ⟨⟨by omega, fun i i0 i1 => ?_⟩, by omega⟩)) (fun q1 => b_Ws ⟨rfl, fun y => ?_⟩))
      · by_cases e : i = k
        · rw [e, ← ez]; exact q1
        · exact h3 i i0 (by omega)
      · have := y.2.1 k h1.1 (by omega)
        rw [← ez] at this
        exact q1 this
    generalize hb : F (4 + k) = b at *
    unfold F_X12_isSureWith_b86
    refine b_We c3 (b_Wg (by omega) ?_)
    rw [c0, c1, c2]
    refine b_Wi (fun q0 => fin 0 ⟨fun _ y => (pos.mp y).1 q0, fun _ => rfl⟩) (fun q0 => b_Wg (by omega) (b_Wi (fun q1 => fin 0 ⟨fun _ y => (pos.mp y).2.1 q1, fun _ => rfl⟩) (fun q1 => b_Wg (by omega) (b_Wi (fun q2 => fin 0 ⟨fun _ y => (pos.mp y).2.2 q2, fun _ => rfl⟩) (fun q2 => fin 1 ⟨fun y => absurd y (by decide), fun y => absurd (pos.mpr ⟨q0, q1, q2⟩) y⟩)))))
theorem Sd_e {M : bM} {d l p : Int} (hC : C_all M) (hG : G_all M d) (hl : 0 ≤ l ∧ l < M 3 0) (hp : 0 ≤ p ∧ p < M 2 0) : ∃ a F, Sr M d l p a F := by
  obtain ⟨o, _, h⟩ := wp_ex (t_search hG hC.2.2.2 hl hp)
  exact ⟨_, _, h⟩
/-- the reference counts what each set from f to t settles -/
theorem t_makeSettled {W : bW} {N Q : bM} {f t : Int} (hQ : Q_all N) (hW : b_fr W N Q) (d1 : b_dis W S_Q = true) (d2 : b_dis W S_chain = true) (d3 : b_dis W [(2, some 0), (126, none)] = true) (hf : 0 ≤ f ∧ f ≤ t ∧ t < 4096) : b_wp (F_X12_makeSettled f t Q) (fun R => b_fr W_X12_makeSettled Q R ∧ ∀ s, f ≤ s → s ≤ t → R 244 s = x_tl N (N 0 10) s 60) := by
  refine b_wl_wp (w_X12_makeSettled b_fr_refl) ?_
  obtain ⟨hC, hG, hD, hcl, hcr, hru, hP⟩ := hQ
  have hQ : Q_all N := ⟨hC, hG, hD, hcl, hcr, hru, hP⟩
  have hl20 := hC.1.2.2.1.1
  have l60 : N 3 0 ≤ 60 := by omega
  unfold F_X12_makeSettled
  refine b_Wb (b_wp_m (fun U z => ?_) (b_loop_ind (P := fun U : bM => b_fr W_X12_makeSettled Q U ∧ ∀ s, f ≤ s → s ≤ t → U 244 s = 0) (I := fun y : Int × bM => (f ≤ y.1 ∧ y.1 ≤ t + 1) ∧ b_fr W_X12_makeSettled Q y.2 ∧ ∀ s, f ≤ s → s < y.1 → y.2 244 s = 0) (fun y => (t + 1 - y.1).toNat) ?_ (f, Q) ⟨by dsimp only; omega, b_fr_refl, fun s s0 s1 => by dsimp only at s1; omega⟩))
  · obtain ⟨z1, z2⟩ := z
    unfold F_X12_makeSettled_b20
    refine b_Wb (b_wp_m (fun U y => ?_) (b_loop_ind (P := fun U : bM => ∀ s, f ≤ s → s ≤ t → U 244 s = x_tl N (N 0 10) s 60) (I := fun y : Int × bM => (0 ≤ y.1 ∧ y.1 ≤ N 3 0) ∧ b_fr W_X12_makeSettled Q y.2 ∧ ∀ s, f ≤ s → s ≤ t → y.2 244 s = x_tl N (N 0 10) s y.1.toNat) (fun y => (N 3 0 - y.1).toNat) ?_ (0, U) ⟨by dsimp only; omega, z1, z2⟩))
    · unfold F_X12_makeSettled_b109
      exact b_Ws y
    intro ⟨l, V⟩ ⟨h1, h2, h3⟩
    dsimp only at h1 h2 h3 ⊢
    have fV : b_fr (W_X12_makeSettled ++ W) N V := fr_app h2 hW
    have dV : b_dis (W_X12_makeSettled ++ W) S_Q = true := b_disW (by decide +kernel) d1
    have qV := Q_k fV dV hQ
    have v20 : V 11 20 = N 3 0 := by
      have := qV.1.1.2.2.1.1
      have e : V 3 0 = N 3 0 := b_kp1 fV (b_disW (by decide +kernel) d2) 3 0 rfl
      omega
    unfold F_X12_makeSettled_s22
    rw [v20]
    refine b_Wi (fun a => b_Ws (fun s s0 s1 => ?_)) (fun a => ?_)
    · have e : l = N 3 0 := by omega
      rw [h3 s s0 s1, e]
      exact (x_tl_t (N 3 0) (by omega) (fun l' l0 l1 y => by
        have := (dbt_f hru hcl hcr (by omega) y).2.2.1
        omega) 60 (by omega) (by omega)).symm
    have dc := x_dbt_c (l := l) fV dV
    refine b_We (e_X12_isDoubt qV.2.2.2.2.2.1 qV.2.2.2.1 qV.2.2.1 (by omega)) (b_Wi (fun b => b_Wg (by omega) (b_Ws ⟨⟨by dsimp only; omega, h2, fun s s0 s1 => ?_⟩, by dsimp only; omega⟩)) (fun b => ?_))
    · dsimp only
      rw [b_01_0] at b
      rw [x_tl_n h1.1 (fun y => b (dc.mpr y.1))]
      exact h3 s s0 s1
    have db : x_dbt N l := dc.mp (Decidable.of_not_not (fun y => b (b_01_0.mpr y)))
    obtain ⟨w1, w2, w3, w4⟩ := dbt_f hru hcl hcr (by omega) db
    have c1 := hcl.1
    have ks := b_kp1 fV dV
    have dd := b_disA (b_disA (show b_dis (W_X12_makeSettled ++ W) (S_C ++ (S_day ++ (S_claim ++ (S_cref ++ (S_rul ++ S_place))))) = true from dV)).2
    have dd2 := b_disA (b_disA dd.2).2
    have kr := b_kp1 fV (b_disA dd2.2).1
    have v236 : V 236 l = N 236 l := kr 236 l rfl
    have v231 : V 231 (N 236 l) = N 147 (N 236 l) := by rw [b_kp1 fV (b_disA dd.2).1 231 _ rfl, hcl.2.1.1]
    have v11 : V 11 11 = N 0 10 := by rw [ks 11 11 (by decide +kernel), hD.1]
    rw [v236, v231, v11]
    refine b_Wg (by omega) ?_
    obtain ⟨a', F, sr⟩ := Sd_e hC hG (l := l) (p := N 147 (N 236 l)) (by omega) w4
    have dV2 : b_dis (W_X12_makeSettled ++ W) S_chain = true := b_disW (by decide +kernel) d2
    have k3 := b_kp1 fV (b_disW (by decide +kernel) d3 : b_dis (W_X12_makeSettled ++ W) [(2, some 0), (126, none)] = true)
    have v2 : V 2 0 = N 2 0 := k3 2 0 rfl
    have v3 : V 3 0 = N 3 0 := b_kp1 fV dV2 3 0 rfl
    have gV := qV.2.1
    rw [ks 0 10 (by decide +kernel)] at gV
    refine b_Wb (b_wp_m (fun o x => ?_) (b_wp_and (t_mkC sr fV (b_disA (show b_dis (W_X12_makeSettled ++ W) (S_C ++ _) = true from dV)).1 dV2 (b_disA (show b_dis (W_X12_makeSettled ++ W) ([(2, some 0)] ++ [(126, none)]) = true from b_disW (by decide +kernel) d3)).1 hC hG (by omega) w4) (t_mkS gV qV.1.2.2.1 qV.1.2.2.2 (by omega) (by omega))))
    obtain ⟨x1, O⟩ := o
    obtain ⟨⟨y1, y2⟩, y3⟩ := x
    dsimp only at y1 y2 y3
    have fO : b_fr W_X12_makeSettled Q O := b_fr_tr h2 (b_fr_mo (by decide +kernel) y1)
    have o244 : ∀ s, O 244 s = V 244 s := fun s => y1 244 s (by simp [b_ins, W_X12_makeChain])
    rcases y2 with ⟨y2, ya⟩ | ⟨y2, ya, _, _, e84, _, e86, _, r2, _, e219⟩
    · refine b_Wtwo (b_Wt y2 (b_Wg (by omega) (b_Ws ⟨⟨by dsimp only; omega, fO, fun s s0 s1 => ?_⟩, by dsimp only; omega⟩)))
      dsimp only
      rw [o244, x_tl_n h1.1 (fun y => ((Sd_i hl20.1 sr).mp y.2).1 ya)]
      exact h3 s s0 s1
    · refine b_Wtwo (b_Wf (by omega) ?_)
      have lk := Sr_lk sr ya
      have v126 : V 126 = N 126 := funext fun i => k3 126 i rfl
      have v6 : V 6 0 = N 6 0 := ks 6 0 (by decide +kernel)
      have fNO : b_fr (W_X12_makeSettled ++ W) N O := fr_app fO hW
      have bs : ∀ O2 : bM, (∀ c j, c ≠ 244 → O2 c j = O c j) → Bs N (N 0 10) F O2 := by
        intro O2 hO2
        have fr2 : b_fr (W_X12_makeSettled ++ W) N O2 := fun c i hi => by
          rw [hO2 c i (fun e => by
            subst e
            revert hi
            unfold b_ins
            rw [List.any_append]
            simp [W_X12_makeSettled])]
          exact fNO c i hi
        have k2 := b_kp1 fr2 dV
        have kp2 := b_kp1 fr2 (b_disA dd2.2).2
        have qO := Q_k fr2 dV hQ
        refine ⟨⟨by rw [hO2 11 84 (by decide)]; exact e84, by rw [hO2 11 86 (by decide)]; exact e86, fun i i0 i1 => by rw [hO2 219 i (by decide)]; exact e219 i i0 i1⟩, ⟨by rw [k2 11 118 (by decide +kernel)]; exact hP.1.1, fun i => by rw [kp2 242 i rfl, hP.2.1.2.1], fun i => by rw [kp2 243 i rfl, hP.2.1.2.2]⟩, fun b b0 b1 => ?_, fun i hi => ?_⟩
        · have y4 := y3 b b0 (by omega)
          unfold g_G g_T g_L g_p at y4
          rw [v126] at y4
          rw [hO2 209 _ (by decide), hO2 209 _ (by decide), hO2 209 _ (by decide)]
          refine ⟨y4.1, y4.2.1, y4.2.2.1, ?_⟩
          rw [← y4.2.2.2]
          have e209 : O2 209 = O 209 := funext fun j => hO2 209 j (by decide)
          have e210 : O2 210 = O 210 := funext fun j => hO2 210 j (by decide)
          unfold F_X12_pointsOf
          have el : (fun t : Int => F_X12_pointsOf_s2 b t O2) = fun t : Int => F_X12_pointsOf_s2 b t O := by
            funext t
            unfold F_X12_pointsOf_s2
            rw [e209]
          have eb : F_X12_pointsOf_b29 b O2 = F_X12_pointsOf_b29 b O := by
            unfold F_X12_pointsOf_b29
            rw [e210]
            rfl
          rw [el, eb]
        · rw [k2 11 11 (by decide +kernel), hD.1, e_X12_ruleOn qO.1.1.2.2.2.2.2.2.1 hi, sp_rule (GS_ss (b_kp1 fr2 dV2 : GS N O2))]
      refine b_Wb (b_wp_m (fun R x => ?_) (b_loop_ind (P := fun R : bM => (∀ c j, c ≠ 244 → R c j = O c j) ∧ ∀ s, f ≤ s → s ≤ t → R 244 s = x_tl N (N 0 10) s (l + 1).toNat) (I := fun y : Int × bM => (f ≤ y.1 ∧ y.1 ≤ t + 1) ∧ (∀ c j, c ≠ 244 → y.2 c j = O c j) ∧ ∀ s, f ≤ s → s ≤ t → y.2 244 s = if s < y.1 then x_tl N (N 0 10) s (l + 1).toNat else x_tl N (N 0 10) s l.toNat) (fun y => (t + 1 - y.1).toNat) ?_ (f, O) ⟨by dsimp only; omega, fun _ _ _ => rfl, fun s s0 s1 => by dsimp only; rw [if_neg (by omega), o244]; exact h3 s s0 s1⟩))
      · obtain ⟨x2, x3⟩ := x
        unfold F_X12_makeSettled_b103
        refine b_Wg (by omega) (b_Ws ⟨⟨by dsimp only; omega, fun c i hi => ?_, x3⟩, by dsimp only; omega⟩)
        dsimp only
        rw [x2 c i (fun e => by subst e; revert hi; simp [b_ins, W_X12_makeSettled])]
        exact fO c i hi
      intro ⟨s, R⟩ ⟨g1, g2, g3⟩
      dsimp only at g1 g2 g3 ⊢
      unfold F_X12_makeSettled_s67
      refine b_Wi (fun q => b_Ws ⟨g2, fun s' s0 s1 => ?_⟩) (fun q => b_Wg (by omega) (b_Wb (b_wp_m (fun x k => ?_) (t_sureWith (s := s) hG hP (bs R g2) lk.1 lk.2.2))))
      · rw [g3 s' s0 s1, if_pos (by omega)]
      have rs := g3 s g1.1 (by omega)
      rw [if_neg (by omega)] at rs
      have xr := x_tl_r (M := N) (d := N 0 10) (s := s) l.toNat
      unfold F_X12_makeSettled_b95
      rw [rs]
      have out : ∀ e, x_tl N (N 0 10) s (l + 1).toNat = x_tl N (N 0 10) s l.toNat + e → ∀ s', f ≤ s' → s' ≤ t → b_up R 244 s (x_tl N (N 0 10) s l.toNat + e) 244 s' = if s' < s + 1 then x_tl N (N 0 10) s' (l + 1).toNat else x_tl N (N 0 10) s' l.toNat := by
        intro e he s' s0 s1
        rw [b_upJ]
        by_cases es : s' = s
        · rw [if_pos es, if_pos (by omega), es, he]
        · rw [if_neg es, g3 s' s0 s1]
          by_cases es2 : s' < s
          · rw [if_pos es2, if_pos (by omega)]
          · rw [if_neg es2, if_neg (by omega)]
      rcases k with ⟨k, sm⟩ | ⟨k, sm⟩
      · refine b_Wt k (b_Wg (by omega) (b_Wl (b_Wg (by omega) (b_Ws ⟨⟨by dsimp only; omega, fun c j hc => ?_, out 0 ?_⟩, by dsimp only; omega⟩))))
        · dsimp only; rw [b_upc hc]; exact g2 c j hc
        · rw [x_tl_n h1.1 (fun y => sm ((Sd_i hl20.1 sr).mp y.2).2)]; omega
      · refine b_Wf (by omega) (b_Wg (by omega) (b_Wl (b_Wg (by omega) (b_Ws ⟨⟨by dsimp only; omega, fun c j hc => ?_, out 1 ?_⟩, by dsimp only; omega⟩))))
        · dsimp only; rw [b_upc hc]; exact g2 c j hc
        · exact x_tl_s h1.1 ⟨db, (Sd_i hl20.1 sr).mpr ⟨ya, sm⟩⟩
  · intro ⟨s, R⟩ ⟨g1, g2, g3⟩
    dsimp only at g1 g2 g3 ⊢
    unfold F_X12_makeSettled_s2
    refine b_Wi (fun q => b_Ws ⟨g2, fun s' s0 s1 => g3 s' s0 (by omega)⟩) (fun q => b_Wg (by omega) (b_Wl (b_Wg (by omega) (b_Ws ⟨⟨by dsimp only; omega, b_frA g2 (by decide), fun s' s0 s1 => ?_⟩, by dsimp only; omega⟩))))
    dsimp only at s1 ⊢
    rw [b_upJ]
    by_cases e : s' = s
    · rw [if_pos e]
    · rw [if_neg e]; exact g3 s' s0 (by omega)
