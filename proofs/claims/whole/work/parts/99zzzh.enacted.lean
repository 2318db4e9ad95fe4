/-- an ACT that is read and enacted: class and reference -/
theorem t_actS {M D : bM} {cc : Nat} {x : Int} (hT : R_tape M) (hwd : R_wd M) (hRu : R_rules M) (hPr : R_prog M) (hCo : R_code M) (hMk : R_marks M) (h110 : ∀ k, 0 ≤ k → k < M 5 0 → M 194 k = M 110 k) (h5 : 0 ≤ M 5 0 ∧ M 5 0 ≤ 120) (hday : M 0 10 = M 11 11) (hN3 : N3 M) (h40 : M 4 0 < 8) (hcc : (cc : Int) = 13 + M 4 0) (hz0 : M (cc + 40) 0 = 0) (hx : F_X1_read M = some (x, D)) (x0 : 0 ≤ x) (fm : Fm cc M D) (d9 : 0 ≤ D 4 9 ∧ D 4 9 < 1000) (d8 : D 4 8 = cc) : b_wp (F_X11_act M) (fun o => b_wp (F_X12_act o.2) (fun o2 => o.1 = o2.1 ∧ ∃ (U Q : bM), b_fr [(124, none), (125, none), (6, some 5)] U o2.2 ∧ R_rules U ∧ R_prog U ∧ R_code U ∧ Fb o.2 Q ∧ Cpd Q o2.2 (M 4 0) ∧ (D 1 5 = Q 11 8 ∧ D 1 6 = Q 11 9) ∧ N3 Q ∧ o2.2 6 5 = 0 ∧ (∀ (z : Nat) (j : Int), (z < 162 ∧ z ≠ 11) ∨ z = 1000 → o2.2 z j = o.2 z j) ∧ b_fr [(124, none), (125, none), (6, some 5)] (fEn (b_up D 1 1 0) (M 0 10)) o.2 ∧ ∀ k b, 0 ≤ k → 0 ≤ b → b < 9 → o2.2 124 (9 * k + b) = if b = M 4 0 + 1 ∧ k < M 5 0 then x_wt U (M 4 0 + 1) k else M 124 (9 * k + b))) := by
  have m1 := hRu.1
  have c2 : 12 ≤ cc ∧ cc < 22 := by omega
  generalize hD1 : b_up D 1 1 0 = D1
  have e1 : ∀ (z : Nat) (j : Int), z ≠ 1 → D1 z j = D z j := fun z j hz => by subst hD1; exact b_upc hz
  have a40 : D1 4 0 = M 4 0 := by rw [e1 4 0 (by decide)]; exact fm 4 0 (by decide) (by omega)
  have a010 : D1 0 10 = M 0 10 := by rw [e1 0 10 (by decide)]; exact fm 0 10 (by decide) (by omega)
  have a48 : (D1 4 8).toNat = cc := by rw [e1 4 8 (by decide), d8]; omega
  have a49 : D1 4 9 = D 4 9 := e1 4 9 (by decide)
  generalize hE : fEn D1 (M 0 10) = E
  obtain ⟨fE1, fE2, fE3, _⟩ := fEn_f (D := D1) (cc := cc) (d := M 0 10) (by rw [e1 4 8 (by decide)]; exact d8) c2
  rw [hE] at fE1 fE2 fE3
  have hE2 : E = fEn (b_up D 1 1 0) (M 0 10) := by rw [hD1]; exact hE.symm
  have rE : ∀ (z : Nat) (j : Int), (162 ≤ z ∧ z ≠ 1000) ∨ z = 11 → E z j = M z j := fun z j hz => by
    rw [fE1 z j (by omega) (by omega) (by omega) (by omega), e1 z j (by omega)]
    refine fm z j ?_ (by omega)
    simp [b_ins, W_aM, W_aC, W_cC, W_tC, W_sumC, W_rw]
    omega
  have e5 : E 5 0 = M 5 0 := by rw [fE1 5 0 (by omega) (by omega) (by omega) (by omega), e1 5 0 (by decide)]; exact fm 5 0 (by decide) (by omega)
  have e124 : ∀ j, E 124 j = M 124 j := fun j => by rw [fE1 124 j (by omega) (by omega) (by omega) (by omega), e1 124 j (by decide)]; exact fm 124 j (by simp [b_ins, W_aM, W_aC, W_cC, W_tC, W_sumC, W_rw]) (by omega)
  have aN : (((M 4 0 + 1).toNat : Nat) : Int) = M 4 0 + 1 := by omega
  have hm : ∀ S, Hm (mix E S) E := fun S c j _ _ h => (mix_c h).symm
  have wts : ∀ S, R_rules (mix E S) → R_prog (mix E S) → R_code (mix E S) → R_marks (mix E S) → (∀ k, 0 ≤ k → k < M 5 0 → mix E S 194 k = mix E S 110 k) → b_wp (F_X7_weighAll_4 E) (fun O => b_fr W_X7_weighBy_4 E O ∧ ∀ k b, 0 ≤ k → 0 ≤ b → b < 9 → O 124 (9 * k + b) = if b = M 4 0 + 1 ∧ k < M 5 0 then x_wt (mix E S) (M 4 0 + 1) k else E 124 (9 * k + b)) := by
    intro S r1 r2 r3 r4 r5
    have u5 : mix E S 5 0 = M 5 0 := by rw [mix_c (by decide)]; exact e5
    have u4 : mix E S 4 0 = M 4 0 + 1 := by rw [mix_c (by decide), fE3, a40]
    refine b_wp_m (fun O z => ⟨z.1, ?_⟩) (t_weighAll (a := (M 4 0 + 1).toNat) r1 r2 (r3 _ (by omega) (by omega)) r4 (by omega) ⟨by omega, by omega⟩ (fun k k0 k1 => r5 k k0 (by omega)) (hm S))
    intro k b k0 b0 b1
    have := z.2.2 k b k0 b0 b1
    rw [aN, u5] at this
    exact this
  obtain ⟨oE, _, _, QE, _, _, _, _, _, _, _, _, r1, r2, r3, r4, r5⟩ := b_wp_ex (t_virt (R := E) (E := E) hT hwd hRu hPr hCo hMk h110 hday hN3 h40 hcc hz0 rE hx x0 hE2)
  obtain ⟨O1, hO1, w1, _⟩ := b_wp_ex (wts oE.2 r1 r2 r3 r4 r5)
  unfold F_X11_act
  refine b_We hx (b_Wtwo ?_)
  have ecl : F_X10_clear D = some D1 := by
    subst hD1
    refine b_eqn ?_
    unfold F_X10_clear
    exact b_Wl (b_Ws rfl)
  refine b_We ecl (b_Wt x0 (b_Wt (by omega) (b_Wg ⟨by omega, by omega, by omega⟩ (b_Wl ?_))))
  rw [a010, hE]
  refine b_We hO1 (b_We (a := b_up O1 6 5 0) (b_eqn ?_) (b_Ws ?_))
  · unfold F_X4_forget
    exact b_Wl (b_Ws rfl)
  dsimp only
  generalize hO : b_up O1 6 5 0 = O
  have fO : b_fr [(124, none), (125, none), (6, some 5)] E O := by subst hO; exact b_frF (b_fr_mo (by decide) w1) (by decide)
  have o65 : O 6 5 = 0 := by subst hO; exact b_ups
  have o124 : ∀ j, O 124 j = O1 124 j := fun j => by subst hO; exact b_upc (by decide)
  clear hO
  have rO : ∀ (z : Nat) (j : Int), (162 ≤ z ∧ z ≠ 1000) ∨ z = 11 → O z j = M z j := fun z j hz => by
    rw [fO z j (by simp [b_ins]; omega)]; exact rE z j hz
  refine b_wp_m (fun o2 z => ?_) (t_virt (R := O) (E := E) hT hwd hRu hPr hCo hMk h110 hday hN3 h40 hcc hz0 rO hx x0 hE2)
  obtain ⟨z1, Q, i, N, z2, z3, z4, z5, z6, z7, z8, z9, z10, z11, z12⟩ := z
  have cls : ∀ (z : Nat) (j : Int), (z < 162 ∧ z ≠ 11) ∨ z = 1000 → o2.2 z j = O z j := fun z j hz => by
    rw [z4.2.2.1 z j (by omega) (by omega)]
    exact z3.1 z j (by simp [b_ins, W_aR, W_pR, W_cR, W_tR, W_X12_a0, W_X12_take]; omega)
  obtain ⟨O2, hO2, _, v2⟩ := b_wp_ex (wts o2.2 z8 z9 z10 z11 z12)
  have eO : O2 = O1 := by rw [hO1] at hO2; exact (Option.some.inj hO2).symm
  refine ⟨z1.symm, mix E o2.2, Q, fun z j hz => ?_, z8, z9, z10, z3, z4, z7, z5.1.2.2.2.2.1, by rw [cls 6 5 (by decide)]; exact o65, cls, fO, fun k b k0 b0 b1 => ?_⟩
  · by_cases h : (z < 162 ∧ z ≠ 11) ∨ z = 1000
    · rw [cls z j h, mix_c h]; exact fO z j hz
    · rw [mix_r h]
  · rw [cls 124 _ (by decide), o124, ← eO, v2 k b k0 b0 b1, e124]
