/-- the reference's act over any memory whose reference's cells are M's, where the class has read an ACT -/
theorem t_virt {M D R E : bM} {cc : Nat} {x : Int} (hT : R_tape M) (hwd : R_wd M) (hRu : R_rules M) (hPr : R_prog M) (hCo : R_code M) (hMk : R_marks M) (h110 : ∀ k, 0 ≤ k → k < M 5 0 → M 194 k = M 110 k) (hday : M 0 10 = M 11 11) (hN3 : N3 M) (h40 : M 4 0 < 8) (hcc : (cc : Int) = 13 + M 4 0) (hz0 : M (cc + 40) 0 = 0) (hR : ∀ (z : Nat) (j : Int), (162 ≤ z ∧ z ≠ 1000) ∨ z = 11 → R z j = M z j) (hx : F_X1_read M = some (x, D)) (x0 : 0 ≤ x) (hE : E = fEn (b_up D 1 1 0) (M 0 10)) : b_wp (F_X12_act R) (fun o => o.1 = x ∧ ∃ (Q : bM) (i N : Nat), Fm cc M D ∧ Fb R Q ∧ Cpd Q o.2 (M 4 0) ∧ Cx (cb M) (M 1 1) D Q cc i N x ∧ D 4 9 < 1000 ∧ (D 1 5 = Q 11 8 ∧ D 1 6 = Q 11 9) ∧ R_rules (mix E o.2) ∧ R_prog (mix E o.2) ∧ R_code (mix E o.2) ∧ R_marks (mix E o.2) ∧ ∀ k, 0 ≤ k → k < M 5 0 → mix E o.2 194 k = mix E o.2 110 k) := by
  have m1 := hRu.1
  rw [act_rd]
  refine b_Wb (b_wp_m (fun r z => ?_) (t_readB (R := R) hT hwd ⟨by omega, by omega⟩ hcc hz0 (hR 11 1 (by decide)) (funext fun j => hR 162 j (by decide)) (fun j => by rw [hR 193 j (by decide)]; exact hN3 j)))
  rcases r with Q | y
  · obtain ⟨fb, D', Z, N, i, e1, fm, cx, d9, d5, d6⟩ := z
    rw [hx] at e1
    have e2 := Option.some.inj e1
    have e3 : x = Z := congrArg Prod.fst e2
    have e4 : D = D' := congrArg Prod.snd e2
    subst e3 e4
    have q35 : Q 11 35 = M 4 0 := by rw [fb.1 11 35 (by decide), hR 11 35 (by decide)]; exact m1.1
    refine b_Winl (b_wp_m (fun o w => ?_) (t_b69 ⟨m1.2.1, h40⟩ q35))
    obtain ⟨w1, w2⟩ := w
    have mx := t_mix (E := E) hRu hPr hCo hday h40 hcc hR fm fb cx hE d9 w2
    have D40 : 12 ≤ cc ∧ cc < 22 := by omega
    have b1 := cx.1.2.1.1
    obtain ⟨fE1, _⟩ := fEn_f (D := b_up D 1 1 0) (cc := cc) (d := M 0 10) (by rw [b_upc (by decide)]; exact b1) D40
    rw [← hE] at fE1
    have kE : ∀ (z : Nat) (j : Int), z = 5 ∨ z = 110 ∨ z = 119 ∨ z = 120 ∨ z = 121 → E z j = M z j := fun z j hz => by
      rw [fE1 z j (by omega) (by omega) (by omega) (by omega), b_upc (by omega)]
      refine fm z j ?_ (by omega)
      simp [b_ins, W_aM, W_aC, W_cC, W_tC, W_sumC, W_rw]
      omega
    have kS : ∀ (z : Nat) (j : Int), z = 194 ∨ z = 205 ∨ z = 206 ∨ z = 207 → o.2 z j = M z j := fun z j hz => by
      rw [w2.2.2.1 z j (by omega) (by omega)]
      rw [fb.1 z j (by simp [b_ins, W_aR, W_pR, W_cR, W_tR, W_X12_a0, W_X12_take]; omega)]
      exact hR z j (by omega)
    have uc : ∀ (z : Nat) (j : Int), z = 5 ∨ z = 110 ∨ z = 119 ∨ z = 120 ∨ z = 121 → mix E o.2 z j = M z j := fun z j hz => by rw [mix_c (by omega)]; exact kE z j hz
    have ur : ∀ (z : Nat) (j : Int), z = 194 ∨ z = 205 ∨ z = 206 ∨ z = 207 → mix E o.2 z j = M z j := fun z j hz => by rw [mix_r (by omega)]; exact kS z j hz
    refine ⟨w1.trans cx.2.2.2.1, Q, i, N, fm, fb, w2, cx, d9, ⟨d5, d6⟩, mx.1, mx.2.1, mx.2.2, ?_, fun k k0 k1 => ?_⟩
    · unfold R_marks at hMk ⊢
      rw [uc 5 0 (by decide), show mix E o.2 119 = M 119 from funext fun j => uc 119 j (by decide), show mix E o.2 120 = M 120 from funext fun j => uc 120 j (by decide), show mix E o.2 121 = M 121 from funext fun j => uc 121 j (by decide), show mix E o.2 205 = M 205 from funext fun j => ur 205 j (by decide), show mix E o.2 206 = M 206 from funext fun j => ur 206 j (by decide), show mix E o.2 207 = M 207 from funext fun j => ur 207 j (by decide)]
      exact hMk
    · rw [ur 194 k (by decide), uc 110 k (by decide)]; exact h110 k k0 k1
  · obtain ⟨_, _, D', e1, _⟩ := z
    rw [hx] at e1
    have e3 : x = -1 := congrArg Prod.fst (Option.some.inj e1)
    omega
/-- the class reads every text to its end -/
theorem t_readC {M : bM} {cc : Nat} (hT : R_tape M) (hwd : R_wd M) (h40 : 0 ≤ M 4 0 ∧ M 4 0 ≤ 8) (hcc : (cc : Int) = 13 + M 4 0) (hz0 : M (cc + 40) 0 = 0) (hN3 : N3 M) : ∃ x D, F_X1_read M = some (x, D) ∧ Fm cc M D ∧ (x = -1 ∨ (0 ≤ x ∧ (0 ≤ D 4 9 ∧ D 4 9 < 1000) ∧ D 4 8 = cc)) := by
  obtain ⟨r, _, z⟩ := b_wp_ex (t_readB (R := M) hT hwd h40 hcc hz0 rfl rfl hN3)
  rcases r with Q | y
  · obtain ⟨fb, D, Z, N, i, e1, fm, cx, d9, _⟩ := z
    exact ⟨Z, D, e1, fm, Or.inr ⟨cx.2.2.2.2.1, ⟨cx.1.2.2.2.1.2.2.1, d9⟩, cx.1.2.1.1⟩⟩
  · obtain ⟨_, _, D, e1, fm, _⟩ := z
    exact ⟨-1, D, e1, fm, Or.inl rfl⟩
