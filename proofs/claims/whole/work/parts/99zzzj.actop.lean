/-- where each ACT's first proof begins -/
def R_z0 (M : bM) : Prop := ∀ a : Nat, a ≤ 9 → M (52 + a) 0 = 0
def A_out (Z : bM) : Prop := R_tape Z ∧ R_rules Z ∧ R_prog Z ∧ R_code Z ∧ R_wts Z ∧ R_ev Z ∧ R_w0 Z ∧ R_wd Z ∧ N3 Z ∧ R_z0 Z ∧ (Z 1 5 = Z 11 8 ∧ Z 1 6 = Z 11 9)
theorem op_actS {M D : bM} {cc : Nat} {x : Int} (hT : R_tape M) (hwd : R_wd M) (hRu : R_rules M) (hPr : R_prog M) (hCo : R_code M) (hMk : R_marks M) (h110 : ∀ k, 0 ≤ k → k < M 5 0 → M 194 k = M 110 k) (h5 : 0 ≤ M 5 0 ∧ M 5 0 ≤ 120) (hday : M 0 10 = M 11 11) (hN3 : N3 M) (hWt : R_wts M) (hW0 : R_w0 M) (hz : R_z0 M) (h40 : M 4 0 < 8) (hcc : (cc : Int) = 13 + M 4 0) (hx : F_X1_read M = some (x, D)) (x0 : 0 ≤ x) (fm : Fm cc M D) (d9 : 0 ≤ D 4 9 ∧ D 4 9 < 1000) (d8 : D 4 8 = cc) : b_wp (F_X11_act M) (fun o => b_wp (F_X12_act o.2) (fun o2 => o.1 = o2.1 ∧ A_out o2.2)) := by
  have m1 := hRu.1
  have c2 : 12 ≤ cc ∧ cc < 22 := by omega
  have hz0 : M (cc + 40) 0 = 0 := by
    have := hz (cc - 12) (by omega)
    rw [show 52 + (cc - 12) = cc + 40 by omega] at this
    exact this
  refine b_wp_m (fun o z => b_wp_m (fun o2 w => ?_) z) (t_actS hT hwd hRu hPr hCo hMk h110 h5 hday hN3 h40 hcc hz0 hx x0 fm d9 d8)
  obtain ⟨w0, U, Q, f, r1, r2, r3, fb, cp, ff, n3, w65, cls, fO, wt⟩ := w
  generalize o2.2 = Z at *
  obtain ⟨fE1, fE2, fE3, _⟩ := fEn_f (D := b_up D 1 1 0) (cc := cc) (d := M 0 10) (by rw [b_upc (by decide)]; exact d8) c2
  -- class's cells that are kept
  have ke : ∀ (z : Nat) (j : Int), z ≠ 1 → z ≠ 124 → z ≠ 125 → ¬ (z = 6 ∧ j = 5) → ¬ (z = 4 ∧ j = 0) → ¬ (12 ≤ z ∧ z < 72 ∧ (z < 52 ∨ j ≠ 0 ∨ 62 ≤ z)) → z ≠ 1000 → o.2 z j = D z j := fun z j h1 h2 h3 h4 h6 h7 h8 => by
    rw [fO z j (by simp [b_ins]; omega), fE1 z j (by omega) (by omega) (by omega) (by omega), b_upc h1]
  have oR : ∀ (z : Nat) (j : Int), (162 ≤ z ∧ z ≠ 1000) ∨ z = 11 → o.2 z j = M z j := fun z j hz' => by
    rw [ke z j (by omega) (by omega) (by omega) (by omega) (by omega) (by omega) (by omega)]
    refine fm z j ?_ (by omega)
    simp [b_ins, W_aM, W_aC, W_cC, W_tC, W_sumC, W_rw]
    omega
  have oC : ∀ (z : Nat) (j : Int), z = 72 ∨ z = 104 ∨ z = 105 ∨ z = 106 ∨ z = 5 ∨ (52 ≤ z ∧ z < 62 ∧ j = 0) → Z z j = M z j := fun z j hz' => by
    rw [cls z j (by omega), ke z j (by omega) (by omega) (by omega) (by omega) (by omega) (by omega) (by omega)]
    refine fm z j ?_ (by omega)
    simp [b_ins, W_aM, W_aC, W_cC, W_tC, W_sumC, W_rw]
    omega
  have o1 : ∀ j, Z 1 j = b_up D 1 1 0 1 j := fun j => by
    rw [cls 1 j (by decide), fO 1 j (by simp [b_ins]), fE1 1 j (by omega) (by omega) (by omega) (by omega)]
  have z40 : Z 4 0 = M 4 0 + 1 := by
    rw [cls 4 0 (by decide), fO 4 0 (by decide), fE3, b_upc (by decide), fm 4 0 (by decide) (by omega)]
  have z50 : Z 5 0 = M 5 0 := oC 5 0 (by omega)
  obtain ⟨s35, s11, sz, s182, s183, ⟨s184, s185, s186, s187⟩, s188, ⟨s189, s190, s191⟩, s192, s193⟩ := cp
  obtain ⟨fb1, fb2, fb3, fb4, fb5, fb6, fb7, _⟩ := fb
  have zr : ∀ (z : Nat) (j : Int), z = 162 ∨ z = 194 ∨ z = 205 ∨ z = 206 ∨ z = 207 → Z z j = M z j := fun z j hz' => by
    rw [sz z j (by omega) (by omega), fb1 z j (by simp [b_ins, W_aR, W_pR, W_cR, W_tR, W_X12_a0, W_X12_take]; omega)]
    exact oR z j (by omega)
  have rZ : R_rules Z := R_rules_k (b_kp1 f (by decide +kernel)) r1
  have u4 : U 4 0 = M 4 0 + 1 := by rw [← z40, f 4 0 (by decide)]
  refine ⟨w0, ⟨?_, ?_, ?_, ?_, ?_⟩, rZ, R_prog_k (b_kp1 f (by decide +kernel)) r2, R_code_k (b_kp1 f (by decide +kernel)) (by omega) r3, fun k k0 k1 a a0 a1 => ?_, Or.inl w65, fun k k0 k1 => ?_, ?_, fun j => ?_, fun a ha => ?_, ?_, ?_⟩
  · rw [s11 1 (by decide), fb7, o1 1, b_ups]
  · rw [o1 1, b_ups]; decide
  · rw [o1 1, b_ups]; decide
  · rw [show Z 162 = M 162 from funext fun j => zr 162 j (by omega), show Z 72 = M 72 from funext fun j => oC 72 j (by omega)]; exact hT.2.2.2.1
  · intro i; rw [show Z 72 = M 72 from funext fun j => oC 72 j (by omega)]; exact hT.2.2.2.2 i
  · rw [z50] at k1
    rw [z40] at a1
    rw [wt k a k0 a0 (by omega)]
    have mk : ∀ N : bM, (∀ (z : Nat) (j : Int), z = 205 ∨ z = 206 ∨ z = 207 → Z z j = N z j) → ∀ v, x_mk Z k v = x_mk N k v := fun N h v => x_mk_c (h 207 k (by omega)) (fun i _ _ => ⟨h 205 _ (by omega), h 206 _ (by omega)⟩) v
    by_cases e : a = M 4 0 + 1
    · rw [if_pos ⟨e, k1⟩, e]
      have fz : ∀ (z : Nat) (j : Int), 162 ≤ z → Z z j = U z j := fun z j h => f z j (by simp [b_ins]; omega)
      rw [x_wt_c (M := U) (N := Z) (funext fun j => fz 183 j (by decide)) (funext fun j => fz 184 j (by decide)) (funext fun j => fz 185 j (by decide)) (funext fun j => fz 187 j (by decide)) (funext fun j => fz 188 j (by decide)) (funext fun j => fz 189 j (by decide)) (funext fun j => fz 190 j (by decide)) (funext fun j => fz 191 j (by decide)) (funext fun j => fz 192 j (by decide)) (funext fun j => fz 193 j (by decide)) (fz 194 k (by decide)) (mk U (fun z j h => fz z j (by omega))) (M 4 0 + 1)]
      have rg := x_wtN_r (a := (M 4 0 + 1).toNat) (k := k) r1 r2 ⟨by omega, by omega⟩
      rw [show (((M 4 0 + 1).toNat : Nat) : Int) = M 4 0 + 1 by omega] at rg
      exact ⟨rfl, rg⟩
    · rw [if_neg (fun q => e q.1)]
      have h0 := hWt k k0 k1 a a0 (by omega)
      refine ⟨h0.1.trans ?_, h0.2⟩
      by_cases ea : a = 0
      · subst ea
        unfold x_wt
        rw [if_pos rfl, if_pos rfl]
      · have r := hRu.2.2 a.toNat (by omega)
        have x1 := r.1
        have x2 := r.2.1
        unfold x_mod at x1
        rw [if_neg (by omega), show ((a.toNat : Nat) : Int) = a by omega] at x1
        refine (x_wt_m (M := M) (N := Z) (by omega) (by omega) ?_ (fun j j0 j1 => ?_) (fun j j0 j1 => ?_) (fun j j0 j1 => ?_) (fun j j0 j1 => ?_) (fun j j0 j1 => hPr a (by omega) (by omega) j j0 j1) (zr 194 k (by omega)) (mk M (fun z j h => zr z j (by omega)))).symm
        · rw [s183, x_cpO (by omega), fb6 _ (by omega), oR 183 _ (by decide)]
        · rw [s184, s185, s187, x_cpO (by omega), x_cpO (by omega), x_cpO (by omega), (fb2 j (by omega)).1.1, (fb2 j (by omega)).1.2, (fb2 j (by omega)).2.2, oR 184 j (by decide), oR 185 j (by decide), oR 187 j (by decide)]
          exact ⟨rfl, rfl, rfl⟩
        · rw [s188, x_cpO (by omega), fb3 j (by omega), oR 188 j (by decide)]
        · rw [s189, s190, s191, x_cpO (by omega), x_cpO (by omega), x_cpO (by omega), (fb4 j (by omega)).1, (fb4 j (by omega)).2.1, (fb4 j (by omega)).2.2, oR 189 j (by decide), oR 190 j (by decide), oR 191 j (by decide)]
          exact ⟨rfl, rfl, rfl⟩
        · rw [s192, s193, x_cpO (by omega), x_cpO (by omega), (fb5 j (by omega)).1, (fb5 j (by omega)).2, oR 192 j (by decide), oR 193 j (by decide)]
          exact ⟨rfl, rfl⟩
  · have := wt k 0 k0 (by decide) (by decide)
    rw [show 9 * k + 0 = 9 * k by omega, if_neg (by omega)] at this
    rw [this]; exact hW0 k k0 k1
  · unfold R_wd at hwd ⊢
    rw [show Z 104 = M 104 from funext fun j => oC 104 j (by omega), show Z 105 = M 105 from funext fun j => oC 105 j (by omega), show Z 106 = M 106 from funext fun j => oC 106 j (by omega)]
    exact hwd
  · rw [s193]
    unfold x_cp
    split
    · exact n3 _
    · exact n3 _
  · rw [oC (52 + a) 0 (by omega)]; exact hz a ha
  · rw [o1 5, b_upi (by decide), s11 8 (by decide)]; exact ff.1
  · rw [o1 6, b_upi (by decide), s11 9 (by decide)]; exact ff.2
