/-- act, class and reference -/
theorem op_act {M : bM} (hT : R_tape M) (hwd : R_wd M) (hRu : R_rules M) (hPr : R_prog M) (hCo : R_code M) (hMk : R_marks M) (hP : R_pap M) (hS : R_sign M) (hday : R_day M) (hN3 : N3 M) (hWt : R_wts M) (hEv : R_ev M) (hW0 : R_w0 M) (hz : R_z0 M) : b_wp (F_X11_act M) (fun o => b_wp (F_X12_act o.2) (fun o2 => o.1 = o2.1 ∧ A_out o2.2 ∧ b_fr W_act M o2.2)) := by
  have m1 := hRu.1
  have h5 : 0 ≤ M 5 0 ∧ M 5 0 ≤ 120 := hS.1.2
  have h110 : ∀ k, 0 ≤ k → k < M 5 0 → M 194 k = M 110 k := fun k k0 k1 => (hP k k0 k1).1.1
  obtain ⟨cc, hcc⟩ : ∃ cc : Nat, (cc : Int) = 13 + M 4 0 := ⟨(13 + M 4 0).toNat, by omega⟩
  have c2 : 12 ≤ cc ∧ cc < 22 := by omega
  have hz0 : M (cc + 40) 0 = 0 := by
    have := hz (cc - 12) (by omega)
    rw [show 52 + (cc - 12) = cc + 40 by omega] at this
    exact this
  obtain ⟨x, D, hx, fm, hc⟩ := t_readC hT hwd ⟨m1.2.1, m1.2.2⟩ hcc hz0 hN3
  have a40 : b_up D 1 1 0 4 0 = M 4 0 := by rw [b_upc (by decide)]; exact fm 4 0 (by decide) (by omega)
  have ecl : F_X10_clear D = some (b_up D 1 1 0) := by
    refine b_eqn ?_
    unfold F_X10_clear
    exact b_Wl (b_Ws rfl)
  have rR : ∀ (z : Nat) (j : Int), (162 ≤ z ∧ z ≠ 1000) ∨ z = 11 → b_up D 1 1 0 z j = M z j := fun z j hz' => by
    rw [b_upc (by omega)]
    refine fm z j ?_ (by omega)
    simp [b_ins, W_aM, W_aC, W_cC, W_tC, W_sumC, W_rw]
    omega
  have rd := t_readB (R := b_up D 1 1 0) hT hwd ⟨m1.2.1, m1.2.2⟩ hcc hz0 (rR 11 1 (by decide)) (funext fun j => rR 162 j (by decide)) (fun j => by rw [rR 193 j (by decide)]; exact hN3 j)
  rcases hc with e | ⟨x0, d9, d8⟩
  · subst e
    unfold F_X11_act
    refine b_We hx (b_Wtwo (b_We ecl (b_Wf (show ¬ (0 : Int) ≤ -1 by decide) (b_Ws ?_))))
    dsimp only
    rw [act_rd]
    refine b_Wb (b_wp_m (fun r z => ?_) rd)
    rcases r with Q | y
    · obtain ⟨fb, D', Z, N, i, e1, fm', cx, _⟩ := z
      rw [hx] at e1
      have e3 : -1 = Z := congrArg Prod.fst (Option.some.inj e1)
      have := cx.2.2.2.2.1
      omega
    · obtain ⟨y1, fb, D', e1, fm', ff⟩ := z
      rw [hx] at e1
      have e4 : D = D' := congrArg Prod.snd (Option.some.inj e1)
      subst e4
      exact b_Ws ⟨y1.symm, t_failed hT hwd hRu hPr hCo hWt hEv hP hS hW0 hN3 hz hcc fm fb ff⟩
  · by_cases h40 : M 4 0 < 8
    · refine b_wp_m (fun o w => ?_) (b_wp_and (op_actS hT hwd hRu hPr hCo hMk h110 h5 hday.1.symm hN3 hWt hW0 hz h40 hcc hx x0 fm d9 d8) (t_actS hT hwd hRu hPr hCo hMk h110 h5 hday.1.symm hN3 h40 hcc hz0 hx x0 fm d9 d8))
      refine b_wp_m (fun o2 v => ⟨v.1.1, v.1.2, ?_⟩) (b_wp_and w.1 w.2)
      obtain ⟨_, w0, U, Q, f, r1, r2, r3, fb, cp, ff, n3, w65, cls, fO, wt⟩ := v
      obtain ⟨fE1, fE2, fE3, _⟩ := fEn_f (D := b_up D 1 1 0) (cc := cc) (d := M 0 10) (by rw [b_upc (by decide)]; exact d8) c2
      have ke : ∀ (z : Nat) (j : Int), b_ins W_act z j = false → o.2 z j = M z j := fun z j h => by
        have lo := W_act_lo h
        have i1 : ¬ (z = 1 ∧ j = 1) := by rintro ⟨e1, e2⟩; subst e1 e2; exact absurd h (by decide)
        have i2 : ¬ (z = 4 ∧ j = 0) := by rintro ⟨e1, e2⟩; subst e1 e2; exact absurd h (by decide)
        have i3 : z ≠ 1000 := by intro e1; subst e1; exact Bool.noConfusion h
        rw [fO z j (b_insN (by decide +kernel) h), fE1 z j (by omega) (by omega) i2 (by omega), b_upN i1]
        exact fm z j (b_insN (by decide +kernel) h) (by omega)
      intro z j h
      by_cases hcl : (z < 162 ∧ z ≠ 11) ∨ z = 1000
      · rw [cls z j hcl]; exact ke z j h
      · obtain ⟨s35, s11, sz, _⟩ := cp
        have i4 : ¬ (z = 11 ∧ j = 35) := by rintro ⟨e1, e2⟩; subst e1 e2; exact absurd h (by decide)
        have i5 : ¬ (182 ≤ z ∧ z ≤ 193) := by
          intro q
          have : z = 182 ∨ z = 183 ∨ z = 184 ∨ z = 185 ∨ z = 186 ∨ z = 187 ∨ z = 188 ∨ z = 189 ∨ z = 190 ∨ z = 191 ∨ z = 192 ∨ z = 193 := by omega
          rcases this with e | e | e | e | e | e | e | e | e | e | e | e <;> (subst e; exact Bool.noConfusion h)
        have eQ : o2.2 z j = Q z j := by
          by_cases e : z = 11
          · subst e; exact s11 j (fun q => i4 ⟨rfl, q⟩)
          · exact sz z j e i5
        rw [eQ, fb.1 z j (b_insN (by decide +kernel) h)]
        exact ke z j h
    · have e8 : M 4 0 = 8 := by omega
      unfold F_X11_act
      refine b_We hx (b_Wtwo (b_We ecl (b_Wt x0 (b_Wf (by omega) (b_Ws ?_)))))
      dsimp only
      rw [act_rd]
      refine b_Wb (b_wp_m (fun r z => ?_) rd)
      rcases r with Q | y
      · obtain ⟨fb, D', Z, N, i, e1, fm', cx, _, ff⟩ := z
        rw [hx] at e1
        have e4 : D = D' := congrArg Prod.snd (Option.some.inj e1)
        subst e4
        have q35 : Q 11 35 = 8 := by rw [fb.1 11 35 (by decide), rR 11 35 (by decide), m1.1]; exact e8
        refine b_Winl ?_
        unfold F_X12_act_b69
        refine b_Wt q35 (b_Ws ⟨rfl, t_failed hT hwd hRu hPr hCo hWt hEv hP hS hW0 hN3 hz hcc fm fb ff⟩)
      · obtain ⟨_, _, D', e1, _⟩ := z
        rw [hx] at e1
        have e3 : x = -1 := congrArg Prod.fst (Option.some.inj e1)
        omega
