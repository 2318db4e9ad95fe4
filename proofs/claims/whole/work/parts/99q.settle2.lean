theorem x_gn_c {M N : bM} (h6 : N 156 = M 156) (h7 : N 157 = M 157) {s b : Int} : ∀ n : Nat, x_gn N s b n = x_gn M s b n := by
  intro n
  induction n with
  | zero => rfl
  | succ n ih =>
    show x_gn N s b n + _ = x_gn M s b n + _
    rw [ih, h6, h7]
theorem Sm_c {M N : bM} (ss : SS M N) (h126 : N 126 = M 126) (h6 : N 156 = M 156) (h7 : N 157 = M 157) (h0 : N 10 0 = M 10 0) {d s : Int} {F : Int → Int} : Sm N d s F ↔ Sm M d s F := by
  unfold Sm
  rw [sp_rule ss, h126, h0]
  refine ⟨fun z => ⟨z.1, fun i i0 i1 => ?_, z.2.2⟩, fun z => ⟨z.1, fun i i0 i1 => ?_, z.2.2⟩⟩
  · have := z.2.1 i i0 i1
    rw [x_gn_c h6 h7] at this
    exact this
  · rw [x_gn_c h6 h7]
    exact z.2.1 i i0 i1
/-- LINK i of the CHAIN found is SURE with s -/
def Ac (M : bM) (d s i : Int) : Prop := x_rule M d 1 ≤ M 126 (10 * M 140 (4 + i) + 8) + (if 0 < M 126 (10 * M 140 (4 + i) + 8) then x_gn M s (M 140 (4 + i)) (M 10 0).toNat else 0)
def cs_fr (Q P : bM) (k : Int) : Prop := (∀ c j, c ≠ 159 → c ≠ 160 → c ≠ 161 → P c j = Q c j) ∧ (∀ i, i ≠ k → P 159 i = Q 159 i) ∧ ∀ j, j < 8 * k → P 160 j = Q 160 j ∧ P 161 j = Q 161 j
def cs_en (P : bM) (k : Int) : Prop := ∀ j, 0 ≤ j → j < P 159 k → 0 ≤ P 160 (8 * k + j) ∧ P 160 (8 * k + j) < 30
theorem t_addCase {Q : bM} {d : Int} (hR : R_rules Q) (hP : R_place Q) (hk : 0 ≤ Q 10 9 ∧ Q 10 9 < 30) (h6 : Q 6 0 ≤ 30) (h2 : 0 ≤ Q 140 2 ∧ Q 140 2 ≤ 8) (h1 : Q 140 2 = 0 → Q 140 1 = 999) (hl : ∀ i, 0 ≤ i → i < Q 140 2 → 0 ≤ Q 140 (4 + i) ∧ Q 140 (4 + i) < Q 6 0) : b_wp (F_X9_addCase_a (12 + (x_act Q d).toNat) Q) (fun o => cs_fr Q o.2 (Q 10 9) ∧ ((o.1 = 0 ∧ ∀ s, ¬ Sm Q d s (Q 140)) ∨ (o.1 = 1 ∧ (0 ≤ o.2 159 (Q 10 9) ∧ o.2 159 (Q 10 9) ≤ 8) ∧ cs_en o.2 (Q 10 9) ∧ ∀ s, cs_ok o.2 (fun b => x_gn Q s b (Q 10 0).toNat) (Q 10 9) ↔ Sm Q d s (Q 140)))) := by
  have hact := x_act_r (d := d) hR
  have hR1 := hR.1
  have r1 := x_rule_r (d := d) (i := 1) hR (by decide)
  generalize hkk : Q 10 9 = k
  rw [hkk] at hk
  have hp1 := hP.1
  have f0 : cs_fr Q Q k := ⟨fun _ _ _ _ _ => rfl, fun _ _ => rfl, fun _ _ => ⟨rfl, rfl⟩⟩
  have f1 : cs_fr Q (b_up Q 159 k 0) k := ⟨fun c j e1 e2 e3 => b_upc e1, fun i hi => b_upi hi, fun j hj => ⟨by rw [b_upc (by decide)], by rw [b_upc (by decide)]⟩⟩
  have b52 : Q 140 0 ≤ x_rule Q d 3 → (Q 140 2 = 0 → x_rule Q d 1 ≤ 999) → b_wp (F_X9_addCase_a_b52 (x_rule Q d 1) (Q 140 2) Q) (fun o => cs_fr Q o.2 k ∧ ((o.1 = 0 ∧ ∀ s, ¬ Sm Q d s (Q 140)) ∨ (o.1 = 1 ∧ (0 ≤ o.2 159 k ∧ o.2 159 k ≤ 8) ∧ cs_en o.2 k ∧ ∀ s, cs_ok o.2 (fun b => x_gn Q s b (Q 10 0).toNat) k ↔ Sm Q d s (Q 140)))) := by
    intro g0 g9
    generalize hr1 : x_rule Q d 1 = rr at *
    unfold F_X9_addCase_a_b52
    rw [hkk]
    refine b_Wg hk (b_Wl (b_Wb (b_wp_m (fun o z => ?_) (b_loop_ind (P := Sum.elim (fun P : bM => cs_fr Q P k ∧ (0 ≤ P 159 k ∧ P 159 k ≤ Q 140 2) ∧ cs_en P k ∧ ∀ s, cs_ok P (fun b => x_gn Q s b (Q 10 0).toNat) k ↔ ∀ i, 0 ≤ i → i < Q 140 2 → Ac Q d s i) (fun o : Int × bM => o.1 = 0 ∧ cs_fr Q o.2 k ∧ ∀ s, ¬ ∀ i, 0 ≤ i → i < Q 140 2 → Ac Q d s i)) (I := fun t : Int × bM => (0 ≤ t.1 ∧ t.1 ≤ Q 140 2) ∧ cs_fr Q t.2 k ∧ (0 ≤ t.2 159 k ∧ t.2 159 k ≤ t.1) ∧ cs_en t.2 k ∧ ∀ s, cs_ok t.2 (fun b => x_gn Q s b (Q 10 0).toNat) k ↔ ∀ i, 0 ≤ i → i < t.1 → Ac Q d s i) (fun t => (Q 140 2 - t.1).toNat) ?_ (0, b_up Q 159 k 0) ?_))))
    · have conv : ∀ s, Sm Q d s (Q 140) ↔ ∀ i, 0 ≤ i → i < Q 140 2 → Ac Q d s i := by
        intro s
        unfold Sm Ac
        rw [hr1]
        exact ⟨fun z => z.2.1, fun z => ⟨g0, z, g9⟩⟩
      rcases o with P | ⟨x, P⟩
      · obtain ⟨z1, z2, z3, z4⟩ := z
        show b_wp (F_X9_addCase_a_b176 P) _
        unfold F_X9_addCase_a_b176
        exact b_Ws ⟨z1, Or.inr ⟨rfl, by dsimp only; omega, z3, fun s => (z4 s).trans (conv s).symm⟩⟩
      · obtain ⟨z1, z2, z3⟩ := z
        exact b_Ws ⟨z2, Or.inl ⟨z1, fun s y => z3 s ((conv s).mp y)⟩⟩
    · intro ⟨i, P⟩ ⟨k1, k2, k3, k4, k5⟩
      dsimp only at k1 k2 k3 k4 k5 ⊢
      unfold F_X9_addCase_a_s65
      have p109 : P 10 9 = k := by rw [k2.1 10 9 (by decide) (by decide) (by decide), hkk]
      have p140 : P 140 (4 + i) = Q 140 (4 + i) := k2.1 140 _ (by decide) (by decide) (by decide)
      have p60 : P 6 0 = Q 6 0 := k2.1 6 0 (by decide) (by decide) (by decide)
      refine b_Wi (fun a => b_Ws ?_) (fun a => b_Wf (by omega) (b_Wg (by omega) (b_Wl ?_)))
      · have e : i = Q 140 2 := by omega
        rw [e] at k3 k5
        exact ⟨k2, k3, k4, k5⟩
      have hli := hl i k1.1 (by omega)
      rw [p140]
      have hf : F_X4_fact (Q 140 (4 + i)) 8 P = some (Q 126 (10 * Q 140 (4 + i) + 8)) := by
        rw [e_X4_fact (by omega) (by omega) (by decide), k2.1 126 _ (by decide) (by decide) (by decide)]
      have ac : ∀ s, Ac Q d s i ↔ rr ≤ Q 126 (10 * Q 140 (4 + i) + 8) + (if 0 < Q 126 (10 * Q 140 (4 + i) + 8) then x_gn Q s (Q 140 (4 + i)) (Q 10 0).toNat else 0) := fun s => by
        unfold Ac
        rw [hr1]
      generalize hb : Q 140 (4 + i) = b at *
      generalize hx : Q 126 (10 * b + 8) = x at *
      have ex : ∀ s, (∀ i', 0 ≤ i' → i' < i + 1 → Ac Q d s i') ↔ ((∀ i', 0 ≤ i' → i' < i → Ac Q d s i') ∧ Ac Q d s i) := fun s => ⟨fun z => ⟨fun i' a0 a1 => z i' a0 (by omega), z i k1.1 (by omega)⟩, fun z i' a0 a1 => by
        by_cases e : i' = i
        · rw [e]; exact z.2
        · exact z.1 i' a0 (by omega)⟩
      refine b_We hf (b_Wi (fun a1 => b_Wg (by omega) (b_Ws ⟨⟨by dsimp only; omega, k2, by dsimp only; omega, k4, fun s => ?_⟩, by dsimp only; omega⟩)) (fun a1 => b_Wi (fun a2 => ?_) (fun a2 => b_Ws ⟨rfl, k2, fun s z => ?_⟩)))
      · dsimp only
        rw [k5 s, ex s]
        refine ⟨fun z => ⟨z, (ac s).mpr ?_⟩, fun z => z.1⟩
        have g := x_gn_r (s := s) (b := b) hP (Q 10 0).toNat (by omega)
        split <;> omega
      · rw [p109]
        generalize hc : P 159 k = c at *
        refine b_Wg (by omega) (b_Wl (b_Wg (by omega) (b_Wl (b_Wg (by omega) (b_Wl ?_)))))
        rw [show k * 8 + c = 8 * k + c by omega]
        generalize hU : b_up (b_up P 160 (8 * k + c) b) 161 (8 * k + c) (rr - x) = U
        have u0 : ∀ c' j, c' ≠ 160 → c' ≠ 161 → U c' j = P c' j := fun c' j e1 e2 => by
          subst hU; rw [b_upc e2, b_upc e1]
        have u160 : ∀ j, U 160 j = if j = 8 * k + c then b else P 160 j := fun j => by
          subst hU; rw [b_upc (by decide), b_upJ]
        have u161 : ∀ j, U 161 j = if j = 8 * k + c then rr - x else P 161 j := fun j => by
          subst hU; rw [b_upJ, b_upc (by decide)]
        clear hU
        have e109 : U 10 9 = k := by rw [u0 10 9 (by decide) (by decide), p109]
        have e159 : U 159 k = c := by rw [u0 159 k (by decide) (by decide), hc]
        rw [e109, e159]
        refine b_Wg (by omega) (b_Wl (b_Wg (by omega) (b_Ws ⟨⟨by dsimp only; omega, ⟨fun c' j e1 e2 e3 => ?_, fun i' hi' => ?_, fun j hj => ⟨?_, ?_⟩⟩, ?_, fun j j0 j1 => ?_, fun s => ?_⟩, by dsimp only; omega⟩)))
        · dsimp only
          rw [b_upc e1, u0 c' j e2 e3]; exact k2.1 c' j e1 e2 e3
        · dsimp only
          rw [b_upi hi', u0 _ _ (by decide) (by decide)]; exact k2.2.1 i' hi'
        · dsimp only
          rw [b_upc (by decide), u160, if_neg (by omega)]; exact (k2.2.2 j hj).1
        · dsimp only
          rw [b_upc (by decide), u161, if_neg (by omega)]; exact (k2.2.2 j hj).2
        · dsimp only
          rw [b_ups]; omega
        · dsimp only at j1 ⊢
          rw [b_ups] at j1
          rw [b_upc (by decide), u160]
          by_cases e : j = c
          · rw [if_pos (by omega)]; omega
          · rw [if_neg (by omega)]; exact k4 j j0 (by omega)
        · dsimp only
          rw [ex s, ← k5 s, ac s, if_pos a2]
          unfold cs_ok
          rw [b_ups, hc]
          refine ⟨fun z => ⟨fun j j0 j1 => ?_, ?_⟩, fun z j j0 j1 => ?_⟩
          · have y := z j j0 (by omega)
            rw [b_upc (by decide), b_upc (by decide), u160, u161, if_neg (by omega), if_neg (by omega)] at y
            exact y
          · have y := z c (by omega) (by omega)
            rw [b_upc (by decide), b_upc (by decide), u160, u161, if_pos rfl, if_pos rfl] at y
            dsimp only at y
            omega
          · rw [b_upc (by decide), b_upc (by decide), u160, u161]
            by_cases e : j = c
            · rw [if_pos (by omega), if_pos (by omega)]; have := z.2; dsimp only; omega
            · rw [if_neg (by omega), if_neg (by omega)]; exact z.1 j j0 (by omega)
      · have y := (ac s).mp (z i k1.1 (by omega))
        rw [if_neg a2] at y
        omega
    · refine ⟨by dsimp only; omega, f1, by dsimp only; rw [b_ups]; omega, fun j j0 j1 => ?_, fun s => ⟨fun _ i i0 i1 => ?_, fun _ j j0 j1 => ?_⟩⟩
      · dsimp only at j1
        rw [b_ups] at j1; omega
      · dsimp only at i1; omega
      · dsimp only at j1
        rw [b_ups] at j1; omega
  unfold F_X9_addCase_a
  refine b_Wg (by omega) (b_We (x_toldN hR (by decide)) (b_We (x_toldN hR (by decide)) (b_Wi (fun q => b_Ws ⟨f0, Or.inl ⟨rfl, fun s z => ?_⟩⟩) (fun q => b_Wi (fun q1 => b52 (by omega) (fun z => by have := h1 z; omega)) (fun q1 => b_Wi (fun q2 => b_Ws ⟨f0, Or.inl ⟨rfl, fun s z => ?_⟩⟩) (fun q2 => b52 (by omega) (fun z => absurd z q2)))))))
  · have := z.1; omega
  · have := z.2.2 q2; have := h1 q2; omega
