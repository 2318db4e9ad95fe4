/-- the reference's step -/
def aS (R : bM) (p k v : Int) : bM := b_up (b_up R 188 (100 * p + k) v) 187 p (k + 1)
theorem e_addStep {R : bM} {p k v : Int} (hp : R 11 48 = p) (hp2 : 192 ≤ p ∧ p < 216) (hk : R 187 p = k) (hk2 : 0 ≤ k ∧ k < 100) : F_X12_addStep v R = some (aS R p k v) := by
  refine b_eqn ?_
  unfold F_X12_addStep
  rw [hp, hk]
  refine b_Wg (by omega) (b_Wl ?_)
  rw [b_upc (show (11 : Nat) ≠ 188 by decide), hp, b_upc (show (187 : Nat) ≠ 188 by decide), hk]
  exact b_Wg (by omega) (b_Wl (b_Ws rfl))
theorem aS_f {R : bM} {p k v : Int} : (∀ z j, z ≠ 188 → ¬ (z = 187 ∧ j = p) → aS R p k v z j = R z j) ∧ aS R p k v 187 p = k + 1 ∧ ∀ j, aS R p k v 188 j = if j = 100 * p + k then v else R 188 j := by
  unfold aS
  refine ⟨fun z j h1 h2 => ?_, b_ups, fun j => ?_⟩
  · by_cases q : z = 187
    · subst q
      rw [b_upi (fun e => h2 ⟨rfl, e⟩), b_upc h1]
    · rw [b_upc q, b_upc h1]
  · rw [b_upc (by decide), b_upJ]
theorem aS_fr {R : bM} {p k v : Int} : b_fr [(187, none), (188, none)] R (aS R p k v) := by
  unfold aS
  exact b_frA (b_frA b_fr_refl (by decide)) (by decide)
/-- rows of proofs before p are as they were -/
def Fp (p : Int) (R Q : bM) : Prop := (∀ j, j ≠ p → Q 186 j = R 186 j ∧ Q 187 j = R 187 j) ∧ (∀ j, j < 100 * p → Q 188 j = R 188 j) ∧ (∀ j, j < 12 * p → Q 189 j = R 189 j ∧ Q 190 j = R 190 j ∧ Q 191 j = R 191 j) ∧ (∀ j, j < 72 * p → Q 192 j = R 192 j ∧ Q 193 j = R 193 j) ∧ (N3 R → N3 Q)
theorem Fp_r {p : Int} {R : bM} : Fp p R R := ⟨fun _ _ => ⟨rfl, rfl⟩, fun _ _ => rfl, fun _ _ => ⟨rfl, rfl, rfl⟩, fun _ _ => ⟨rfl, rfl⟩, fun z => z⟩
theorem Fp_t {p : Int} {R Q S : bM} (h : Fp p R Q) (h2 : Fp p Q S) : Fp p R S := by
  refine ⟨fun j hj => ?_, fun j hj => ?_, fun j hj => ?_, fun j hj => ?_, fun z => ?_⟩
  · rw [(h2.1 j hj).1, (h2.1 j hj).2]; exact h.1 j hj
  · rw [h2.2.1 j hj]; exact h.2.1 j hj
  · rw [(h2.2.2.1 j hj).1, (h2.2.2.1 j hj).2.1, (h2.2.2.1 j hj).2.2]; exact h.2.2.1 j hj
  · rw [(h2.2.2.2.1 j hj).1, (h2.2.2.2.1 j hj).2]; exact h.2.2.2.1 j hj
  · exact h2.2.2.2.2 (h.2.2.2.2 z)
theorem Fp_w {W : bW} {p : Int} {R Q : bM} (f : b_fr W R Q) (d : b_dis W [(186, none), (187, none), (188, none), (189, none), (190, none), (191, none), (192, none), (193, none)] = true) : Fp p R Q := by
  have k := b_kp1 f d
  exact ⟨fun j _ => ⟨k 186 j rfl, k 187 j rfl⟩, fun j _ => k 188 j rfl, fun j _ => ⟨k 189 j rfl, k 190 j rfl, k 191 j rfl⟩, fun j _ => ⟨k 192 j rfl, k 193 j rfl⟩, fun z j => by rw [k 193 j rfl]; exact z j⟩
theorem Fp_a {p k v : Int} {R : bM} (hk : 0 ≤ k) : Fp p R (aS R p k v) := by
  refine ⟨fun j hj => ⟨aS_f.1 _ _ (by decide) (fun z => absurd z.1 (by decide)), aS_f.1 _ _ (by decide) (fun z => hj z.2)⟩, fun j hj => ?_, fun j hj => ⟨aS_f.1 _ _ (by decide) (fun z => absurd z.1 (by decide)), aS_f.1 _ _ (by decide) (fun z => absurd z.1 (by decide)), aS_f.1 _ _ (by decide) (fun z => absurd z.1 (by decide))⟩, fun j hj => ⟨aS_f.1 _ _ (by decide) (fun z => absurd z.1 (by decide)), aS_f.1 _ _ (by decide) (fun z => absurd z.1 (by decide))⟩, fun z j => by rw [aS_f.1 193 j (by decide) (fun z => absurd z.1 (by decide))]; exact z j⟩
  rw [aS_f.2.2, if_neg (by omega)]
def W_tR : bW := [(11, some 3), (11, some 4), (11, some 5), (11, some 6), (11, some 7), (11, some 10), (11, some 32), (186, none), (187, none), (188, none), (189, none), (190, none), (191, none), (192, none), (193, none)]
/-- the reference's TEST -/
theorem t_testR {R : bM} {c : Int → Int} {n : Int} {i : Nat} {t p k : Int} (hB : z_B c n) (h : Rt c R i) (hp : R 11 48 = p) (hp2 : 192 ≤ p ∧ p < 216) (ht : R 186 p = t) (ht0 : 0 ≤ t ∧ t ≤ 12) (hk : R 187 p = k) (hk2 : 0 ≤ k ∧ k < 100) : b_wp (F_X12_readTest R) (fun o => b_fr (W_tR ++ [(11, some 8), (11, some 9)]) R o.2 ∧ Fp p R o.2 ∧ ∃ a b op f q i2, To c i t a b op f q i2 ∧ ((a = 0 ∧ o.1 = 0 ∧ o.2 11 8 = f ∧ o.2 11 9 = q) ∨ ((1 ≤ a ∧ a ≤ 3) ∧ o.1 = 1 ∧ b_fr W_tR R o.2 ∧ Rt c o.2 i2 ∧ o.2 186 p = t + 1 ∧ o.2 187 p = k + 1 ∧ (∀ j, o.2 188 j = if j = 100 * p + k then t else R 188 j) ∧ (o.2 190 (12 * p + t) = a ∧ o.2 191 (12 * p + t) = b ∧ o.2 189 (12 * p + t) = op) ∧ (∀ j : Nat, (j : Int) < a → Tr c o.2 (6 * (12 * p + t) + j) (i + 2 * j)) ∧ (1 ≤ op → ∀ j : Nat, (j : Int) < b → Tr c o.2 (6 * (12 * p + t) + 3 + j) (i + (2 * a - 1).toNat + 1 + 2 * j)) ∧ (∀ j, j ≠ 12 * p + t → o.2 189 j = R 189 j ∧ o.2 190 j = R 190 j ∧ o.2 191 j = R 191 j) ∧ ∀ j, ¬ (6 * (12 * p + t) ≤ j ∧ j < 6 * (12 * p + t) + 6) → o.2 192 j = R 192 j ∧ o.2 193 j = R 193 j))) := by
  have s5 : R 11 5 = qT c i := h.2.1
  unfold F_X12_readTest
  rw [hp, ht]
  refine b_Wb (b_wp_m (fun x z => ?_) (t_termR h))
  have bad : ∀ fk : Int, To c i t 0 0 0 fk (qT c i) 0 → b_wp (b_bind (F_X12_wrong fk R) (fun t => b_two t (fun x17 M18 => b_g (x17 = 0 ∨ x17 = 1) (some (x17, M18))))) (fun o => b_fr (W_tR ++ [(11, some 8), (11, some 9)]) R o.2 ∧ Fp p R o.2 ∧ ∃ a b op f q i2, To c i t a b op f q i2 ∧ ((a = 0 ∧ o.1 = 0 ∧ o.2 11 8 = f ∧ o.2 11 9 = q) ∨ ((1 ≤ a ∧ a ≤ 3) ∧ o.1 = 1 ∧ b_fr W_tR R o.2 ∧ Rt c o.2 i2 ∧ o.2 186 p = t + 1 ∧ o.2 187 p = k + 1 ∧ (∀ j, o.2 188 j = if j = 100 * p + k then t else R 188 j) ∧ (o.2 190 (12 * p + t) = a ∧ o.2 191 (12 * p + t) = b ∧ o.2 189 (12 * p + t) = op) ∧ (∀ j : Nat, (j : Int) < a → Tr c o.2 (6 * (12 * p + t) + j) (i + 2 * j)) ∧ (1 ≤ op → ∀ j : Nat, (j : Int) < b → Tr c o.2 (6 * (12 * p + t) + 3 + j) (i + (2 * a - 1).toNat + 1 + 2 * j)) ∧ (∀ j, j ≠ 12 * p + t → o.2 189 j = R 189 j ∧ o.2 190 j = R 190 j ∧ o.2 191 j = R 191 j) ∧ ∀ j, ¬ (6 * (12 * p + t) ≤ j ∧ j < 6 * (12 * p + t) + 6) → o.2 192 j = R 192 j ∧ o.2 193 j = R 193 j))) := by
    intro fk to
    refine b_We e_wrongR (b_Wtwo (b_Wg (Or.inl rfl) (b_Ws ⟨b_frF (b_frF b_fr_refl (by decide)) (by decide), Fp_w (W := [(11, some 8), (11, some 9)]) (b_frF (b_frF b_fr_refl (by decide)) (by decide)) (by decide), 0, 0, 0, fk, qT c i, 0, to, Or.inl ⟨rfl, rfl, (wrR_f (M := R) (k := fk)).1, (wrR_f (M := R) (k := fk)).2.trans s5⟩⟩)))
  rcases z with ⟨z1, z2⟩ | ⟨z1, z2⟩
  · refine b_Wf (by omega) (b_Wg (by omega) (b_Wi (fun e => bad 4 (Or.inl ⟨z2, by omega, rfl, rfl, rfl⟩)) (fun e => b_Wg (by omega) (b_Wl (b_Wg (by omega) (b_We (e_addStep hp hp2 hk hk2) ?_))))))
    have nh : ¬ (Tk c i ∧ 12 ≤ t) := fun q => by omega
    generalize hA : aS R p k t = A
    have a48 : A 11 48 = p := by subst hA; rw [aS_f.1 11 48 (by decide) (fun z => absurd z.1 (by decide))]; exact hp
    have a186 : A 186 p = t := by subst hA; rw [aS_f.1 186 p (by decide) (fun z => absurd z.1 (by decide))]; exact ht
    have aF : b_fr [(187, none), (188, none)] R A := by subst hA; exact aS_fr
    have aP : Fp p R A := by subst hA; exact Fp_a hk2.1
    have a187 : A 187 p = k + 1 := by subst hA; exact aS_f.2.1
    have a188 : ∀ j, A 188 j = if j = 100 * p + k then t else R 188 j := by subst hA; exact aS_f.2.2
    clear hA
    rw [a48, a186]
    refine b_Wg (by omega) (b_Wl ?_)
    generalize hD : b_up A 186 p (t + 1) = D
    have dF : b_fr [(186, none), (187, none), (188, none)] R D := by subst hD; exact b_frA (b_fr_mo (by decide) aF) (by decide)
    have dA : ∀ z j, z ≠ 186 → D z j = A z j := fun z j hz => by subst hD; exact b_upc hz
    have d186 : ∀ j, D 186 j = if j = p then t + 1 else A 186 j := fun j => by subst hD; exact b_upJ
    clear hD
    have dP : Fp p R D := by
      refine ⟨fun j hj => ?_, fun j hj => ?_, fun j hj => ?_, fun j hj => ?_, fun z => ?_⟩
      · rw [d186, if_neg hj, dA 187 j (by decide)]; exact aP.1 j hj
      · rw [dA 188 j (by decide)]; exact aP.2.1 j hj
      · rw [dA 189 j (by decide), dA 190 j (by decide), dA 191 j (by decide)]; exact aP.2.2.1 j hj
      · rw [dA 192 j (by decide), dA 193 j (by decide)]; exact aP.2.2.2.1 j hj
      · intro j; rw [dA 193 j (by decide)]; exact aP.2.2.2.2 z j
    have dR := Rt_k dF (by decide) h
    refine b_Wg (by omega) (b_Wb (b_wp_m (fun o w => ?_) (t_sumR (f0 := 6 * (12 * p + t)) hB dR (by omega))))
    obtain ⟨x15, E⟩ := o
    obtain ⟨w1, w2, a, f, q, so, w3⟩ := w
    dsimp only at w1 w2 w3
    refine b_Wtwo ?_
    dsimp only
    have eP : Fp p R E := by
      refine Fp_t dP ?_
      have kk := b_kp1 w1 (show b_dis (W_sumR ++ [(11, some 8), (11, some 9)]) [(186, none), (187, none), (188, none), (189, none), (190, none), (191, none)] = true by decide)
      exact ⟨fun j _ => ⟨kk 186 j rfl, kk 187 j rfl⟩, fun j _ => kk 188 j rfl, fun j _ => ⟨kk 189 j rfl, kk 190 j rfl, kk 191 j rfl⟩, fun j hj => w2.1 j (by omega), w2.2⟩
    rcases w3 with ⟨w3, w4, w5, w6⟩ | ⟨w3, w4, w5, w6, w7, w8⟩
    · exact b_Wt w4 (b_Ws ⟨b_fr_tr (b_fr_mo (by decide) dF) (b_fr_mo (by decide) w1), eP, 0, 0, 0, f, q, 0, Or.inr ⟨nh, a, f, q, so, Or.inl ⟨w3, rfl, rfl, rfl⟩⟩, Or.inl ⟨rfl, rfl, w5, w6⟩⟩)
    · refine b_Wf (by omega) (b_Wg (by omega) (b_Wl (b_Wg (by omega) (b_Wl (b_Wg (by omega) (b_Wl ?_))))))
      obtain ⟨⟨a3, _, _⟩, stk, sq⟩ := So_tk hB so w3.1
      have ek := b_kp1 w5 (show b_dis W_sumR [(186, none), (187, none), (188, none), (189, none), (190, none), (191, none), (11, some 48)] = true by decide)
      generalize hF : b_up (b_up (b_up E 190 (12 * p + t) (E 11 32)) 191 (12 * p + t) 0) 189 (12 * p + t) 0 = F
      have fE : b_fr [(189, none), (190, none), (191, none)] E F := by subst hF; exact b_frA (b_frA (b_frA b_fr_refl (by decide)) (by decide)) (by decide)
      have f190 : ∀ j, F 190 j = if j = 12 * p + t then a else E 190 j := fun j => by subst hF; rw [b_upc (by decide), b_upc (by decide), b_upJ, w7]
      have f191 : ∀ j, F 191 j = if j = 12 * p + t then 0 else E 191 j := fun j => by subst hF; rw [b_upc (by decide), b_upJ, b_upc (by decide)]
      have f189 : ∀ j, F 189 j = if j = 12 * p + t then 0 else E 189 j := fun j => by subst hF; rw [b_upJ, b_upc (by decide), b_upc (by decide)]
      clear hF
      have fR := Rt_k fE (by decide) w6
      have fk := b_kp1 fE (show b_dis [(189, none), (190, none), (191, none)] [(186, none), (187, none), (188, none), (192, none), (193, none), (11, some 48), (11, some 32)] = true by decide)
      have frF : b_fr W_tR R F := b_fr_tr (b_fr_mo (by decide) dF) (b_fr_tr (b_fr_mo (by decide) w5) (b_fr_mo (by decide) fE))
      have fP : Fp p R F := by
        refine ⟨fun j hj => ?_, fun j hj => ?_, fun j hj => ?_, fun j hj => ?_, fun z => ?_⟩
        · rw [fk 186 j rfl, fk 187 j rfl]; exact eP.1 j hj
        · rw [fk 188 j rfl]; exact eP.2.1 j hj
        · rw [f189, f190, f191, if_neg (by omega), if_neg (by omega), if_neg (by omega)]; exact eP.2.2.1 j hj
        · rw [fk 192 j rfl, fk 193 j rfl]; exact eP.2.2.2.1 j hj
        · intro j; rw [fk 193 j rfl]; exact eP.2.2.2.2 z j
      have f186 : F 186 p = t + 1 := by rw [fk 186 p rfl, ek 186 p rfl, d186, if_pos rfl]
      have f187 : F 187 p = k + 1 := by rw [fk 187 p rfl, ek 187 p rfl, dA 187 p (by decide)]; exact a187
      have f188 : ∀ j, F 188 j = if j = 100 * p + k then t else R 188 j := fun j => by rw [fk 188 j rfl, ek 188 j rfl, dA 188 j (by decide)]; exact a188 j
      have ft : ∀ j, j ≠ 12 * p + t → F 189 j = R 189 j ∧ F 190 j = R 190 j ∧ F 191 j = R 191 j := fun j hj => by
        rw [f189, f190, f191, if_neg hj, if_neg hj, if_neg hj, ek 189 j rfl, ek 190 j rfl, ek 191 j rfl, dF 189 j (by simp [b_ins]), dF 190 j (by simp [b_ins]), dF 191 j (by simp [b_ins])]
        exact ⟨rfl, rfl, rfl⟩
      have fo : ∀ j, ¬ (6 * (12 * p + t) ≤ j ∧ j < 6 * (12 * p + t) + 3) → F 192 j = R 192 j ∧ F 193 j = R 193 j := fun j hj => by
        rw [fk 192 j rfl, fk 193 j rfl, (w2.1 j hj).1, (w2.1 j hj).2, dF 192 j (by simp [b_ins]), dF 193 j (by simp [b_ins])]
        exact ⟨rfl, rfl⟩
      have ftr : ∀ j : Nat, (j : Int) < a → Tr c F (6 * (12 * p + t) + j) (i + 2 * j) := fun j hj => by
        unfold Tr
        rw [fk 192 _ rfl, fk 193 _ rfl]
        exact w8 j hj
      have kr := Kr_of fR
      have so2 := so_cases fR
      -- no second SUM
      have one : Pw c (i + (2 * a - 1).toNat) 21 3 (-1) → b_wp (some ((1 : Int), F)) (fun o => b_fr (W_tR ++ [(11, some 8), (11, some 9)]) R o.2 ∧ Fp p R o.2 ∧ ∃ a b op f q i2, To c i t a b op f q i2 ∧ ((a = 0 ∧ o.1 = 0 ∧ o.2 11 8 = f ∧ o.2 11 9 = q) ∨ ((1 ≤ a ∧ a ≤ 3) ∧ o.1 = 1 ∧ b_fr W_tR R o.2 ∧ Rt c o.2 i2 ∧ o.2 186 p = t + 1 ∧ o.2 187 p = k + 1 ∧ (∀ j, o.2 188 j = if j = 100 * p + k then t else R 188 j) ∧ (o.2 190 (12 * p + t) = a ∧ o.2 191 (12 * p + t) = b ∧ o.2 189 (12 * p + t) = op) ∧ (∀ j : Nat, (j : Int) < a → Tr c o.2 (6 * (12 * p + t) + j) (i + 2 * j)) ∧ (1 ≤ op → ∀ j : Nat, (j : Int) < b → Tr c o.2 (6 * (12 * p + t) + 3 + j) (i + (2 * a - 1).toNat + 1 + 2 * j)) ∧ (∀ j, j ≠ 12 * p + t → o.2 189 j = R 189 j ∧ o.2 190 j = R 190 j ∧ o.2 191 j = R 191 j) ∧ ∀ j, ¬ (6 * (12 * p + t) ≤ j ∧ j < 6 * (12 * p + t) + 6) → o.2 192 j = R 192 j ∧ o.2 193 j = R 193 j))) := by
        intro pw
        exact b_Ws ⟨b_fr_mo (by decide) frF, fP, a, 0, 0, 0, 0, i + (2 * a - 1).toNat, Or.inr ⟨nh, a, f, q, so, Or.inr ⟨w3.1, -1, pw, Or.inl ⟨rfl, rfl, rfl, rfl, rfl, rfl, rfl⟩⟩⟩, Or.inr ⟨w3, rfl, frF, fR, f186, f187, f188, ⟨by dsimp only; rw [f190, if_pos rfl], by dsimp only; rw [f191, if_pos rfl], by dsimp only; rw [f189, if_pos rfl]⟩, ftr, fun z => absurd z (by decide), ft, fun j hj => fo j (by omega)⟩⟩
      have pwn : ¬ (21 ≤ F 11 4 ∧ F 11 4 ≤ 23) → Pw c (i + (2 * a - 1).toNat) 21 3 (-1) := by
        intro nk
        refine Or.inl ⟨rfl, fun j hj z => nk ?_⟩
        have := (Kr_i kr (j := j + 21) (by omega)).mpr z
        omega
      refine b_Wi (fun y => b_We e_X12_in (b_Wi (fun y2 => one (pwn (fun z => b_01_0.mp y2 z))) (fun y2 => ?_))) (fun y => one (pwn (fun z => ?_)))
      · have y3 := b_01_n y2
        generalize hy : F 11 4 = yk at *
        have kw := (Kr_i kr (j := yk.toNat) (by omega)).mp (by omega)
        have pw : Pw c (i + (2 * a - 1).toNat) 21 3 (yk - 21) := Or.inr ⟨yk.toNat - 21, by omega, by omega, kw.1, by rw [show yk.toNat - 21 + 21 = yk.toNat by omega]; exact kw.2⟩
        refine b_Wg (by omega) (b_Wl ?_)
        generalize hG : b_up F 189 (12 * p + t) (yk - 21 + 1) = Gm
        have gF : b_fr [(189, none)] F Gm := by subst hG; exact b_frA b_fr_refl (by decide)
        have g189 : ∀ j, Gm 189 j = if j = 12 * p + t then yk - 21 + 1 else F 189 j := fun j => by subst hG; exact b_upJ
        clear hG
        refine b_Wb (b_wp_m (fun Hm' v => ?_) (t_scanT hB (Rt_k gF (by decide) fR)))
        have v1 := v.1
        have v2 := v.2
        refine b_Wg (by omega) (b_Wb (b_wp_m (fun o u => ?_) (t_sumR (f0 := 6 * (12 * p + t) + 3) hB v2 (by omega))))
        obtain ⟨x34, J⟩ := o
        obtain ⟨u1, u2, b, f', q', so', u3⟩ := u
        dsimp only at u1 u2 u3
        refine b_Wtwo ?_
        dsimp only
        have hk' := b_kp1 v1 (show b_dis W_sc [(186, none), (187, none), (188, none), (189, none), (190, none), (191, none), (192, none), (193, none)] = true by decide)
        have gk' := b_kp1 gF (show b_dis [(189, none)] [(186, none), (187, none), (188, none), (190, none), (191, none), (192, none), (193, none)] = true by decide)
        have jk := b_kp1 u1 (show b_dis (W_sumR ++ [(11, some 8), (11, some 9)]) [(186, none), (187, none), (188, none), (189, none), (190, none), (191, none)] = true by decide)
        have jP : Fp p R J := by
          refine ⟨fun j hj => ?_, fun j hj => ?_, fun j hj => ?_, fun j hj => ?_, fun z => ?_⟩
          · rw [jk 186 j rfl, jk 187 j rfl, hk' 186 j rfl, hk' 187 j rfl, gk' 186 j rfl, gk' 187 j rfl]; exact fP.1 j hj
          · rw [jk 188 j rfl, hk' 188 j rfl, gk' 188 j rfl]; exact fP.2.1 j hj
          · rw [jk 189 j rfl, jk 190 j rfl, jk 191 j rfl, hk' 189 j rfl, hk' 190 j rfl, hk' 191 j rfl, g189, if_neg (by omega), gk' 190 j rfl, gk' 191 j rfl]; exact fP.2.2.1 j hj
          · rw [(u2.1 j (by omega)).1, (u2.1 j (by omega)).2, hk' 192 j rfl, hk' 193 j rfl, gk' 192 j rfl, gk' 193 j rfl]; exact fP.2.2.2.1 j hj
          · refine u2.2 (fun j => ?_); rw [hk' 193 j rfl, gk' 193 j rfl]; exact fP.2.2.2.2 z j
        rcases u3 with ⟨u3, u4, u5, u6⟩ | ⟨u3, u4, u5, u6, u7, u8⟩
        · exact b_Wt u4 (b_Ws ⟨b_fr_tr (b_fr_mo (by decide) frF) (b_fr_tr (b_fr_mo (by decide) gF) (b_fr_tr (b_fr_mo (by decide) v1) (b_fr_mo (by decide) u1))), jP, 0, 0, 0, f', q', 0, Or.inr ⟨nh, a, f, q, so, Or.inr ⟨w3.1, yk - 21, pw, Or.inr ⟨by omega, b, f', q', so', Or.inl ⟨u3, rfl, rfl, rfl⟩⟩⟩⟩, Or.inl ⟨rfl, rfl, u5, u6⟩⟩)
        · refine b_Wf (by omega) (b_Wg (by omega) (b_Wl (b_Ws ?_)))
          have frJ : b_fr W_tR R J := b_fr_tr frF (b_fr_tr (b_fr_mo (by decide) gF) (b_fr_tr (b_fr_mo (by decide) v1) (b_fr_mo (by decide) u5)))
          have lk : ∀ z j, z ≠ 191 → b_up J 191 (12 * p + t) (J 11 32) z j = J z j := fun z j hz => b_upc hz
          refine ⟨b_frA (b_fr_mo (by decide) frJ) (by decide), ?_, a, b, yk - 21 + 1, 0, 0, i + (2 * a - 1).toNat + 1 + (2 * b - 1).toNat, Or.inr ⟨nh, a, f, q, so, Or.inr ⟨w3.1, yk - 21, pw, Or.inr ⟨by omega, b, f', q', so', Or.inr ⟨u3.1, rfl, rfl, rfl, rfl, rfl, rfl⟩⟩⟩⟩, Or.inr ⟨w3, rfl, b_frA frJ (by decide), Rt_k (W := [(191, none)]) (b_frA b_fr_refl (by decide)) (by decide) u6, ?_, ?_, fun j => ?_, ⟨?_, ?_, ?_⟩, fun j hj => ?_, fun _ j hj => ?_, fun j hj => ?_, fun j hj => ?_⟩⟩
          · refine ⟨fun j hj => ?_, fun j hj => ?_, fun j hj => ?_, fun j hj => ?_, fun z => ?_⟩
            · dsimp only; rw [lk _ _ (by decide), lk _ _ (by decide)]; exact jP.1 j hj
            · dsimp only; rw [lk _ _ (by decide)]; exact jP.2.1 j hj
            · dsimp only; rw [lk _ _ (by decide), lk _ _ (by decide), b_upJ, if_neg (by omega)]; exact jP.2.2.1 j hj
            · dsimp only; rw [lk _ _ (by decide), lk _ _ (by decide)]; exact jP.2.2.2.1 j hj
            · intro j; dsimp only; rw [lk _ _ (by decide)]; exact jP.2.2.2.2 z j
          · dsimp only; rw [lk _ _ (by decide), jk 186 p rfl, hk' 186 p rfl, gk' 186 p rfl]; exact f186
          · dsimp only; rw [lk _ _ (by decide), jk 187 p rfl, hk' 187 p rfl, gk' 187 p rfl]; exact f187
          · dsimp only; rw [lk _ _ (by decide), jk 188 j rfl, hk' 188 j rfl, gk' 188 j rfl]; exact f188 j
          · dsimp only; rw [lk _ _ (by decide), jk 190 _ rfl, hk' 190 _ rfl, gk' 190 _ rfl, f190, if_pos rfl]
          · dsimp only; rw [b_ups]; exact u7
          · dsimp only; rw [lk _ _ (by decide), jk 189 _ rfl, hk' 189 _ rfl, g189, if_pos rfl]
          · have x1 := u2.1 (6 * (12 * p + t) + j) (by omega)
            have x2 := ftr j hj
            unfold Tr at x2 ⊢
            dsimp only
            rw [lk _ _ (by decide), lk _ _ (by decide), x1.1, x1.2, hk' 192 _ rfl, hk' 193 _ rfl, gk' 192 _ rfl, gk' 193 _ rfl]
            exact x2
          · have x2 := u8 j hj
            unfold Tr at x2 ⊢
            dsimp only
            rw [lk _ _ (by decide), lk _ _ (by decide)]
            exact x2
          · dsimp only
            rw [lk _ _ (by decide), lk _ _ (by decide), b_upJ, if_neg hj, jk 189 j rfl, jk 190 j rfl, jk 191 j rfl, hk' 189 j rfl, hk' 190 j rfl, hk' 191 j rfl, g189, if_neg hj, gk' 190 j rfl, gk' 191 j rfl]
            exact ft j hj
          · dsimp only
            rw [lk _ _ (by decide), lk _ _ (by decide), (u2.1 j (by omega)).1, (u2.1 j (by omega)).2, hk' 192 j rfl, hk' 193 j rfl, gk' 192 j rfl, gk' 193 j rfl]
            exact fo j (by omega)
      · have kw := (Kr_i kr (j := (F 11 4).toNat) (by omega)).mp (by omega)
        exact y (so2.2.2.2.2.2.1.mpr kw.1)
  · exact b_Wt z1 (bad 1 (Or.inr ⟨fun q => z2 q.1, 0, 1, qT c i, ⟨0, by decide, fun j hj => by omega, Or.inl ⟨z2, rfl, rfl, rfl⟩⟩, Or.inl ⟨rfl, rfl, rfl, rfl⟩⟩))
