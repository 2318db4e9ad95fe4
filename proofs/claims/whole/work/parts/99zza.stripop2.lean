theorem gX_d {M : bM} {l : Int} (h : Pg M l) : ∀ i : Nat, (i : Int) < M 94 l → (-1500 ≤ gX M l (i + 1) - gX M l i ∧ gX M l (i + 1) - gX M l i ≤ 1500) ∧ -1500 ≤ gY M l (i + 1) - gY M l i ∧ gY M l (i + 1) - gY M l i ≤ 1500 := by
  intro i hi
  have f := h.2.2.1 i (by omega) hi
  rw [gX_s, gY_s]
  refine ⟨?_, ?_⟩
  · split
    · omega
    · split <;> omega
  · split
    · omega
    · split <;> omega
theorem t_stripR {M N : bM} {l o : Int} (hL : R_lots M) (hS : R_shape M) (hb : R_bd M) (hc : R_cor M) (hN : Nf M N) (q1 : 0 ≤ l ∧ l < M 3 0) (q2 : 0 ≤ o ∧ o < M 3 0) (q3 : ¬ l = o) (q4 : ¬ M 94 l = 0) (q5 : ¬ M 94 o = 0) : b_wp (F_X12_strip l o N) (fun o2 => (gE M l ∧ gE M o ∧ o2.1 = max (gSm M l o) (-gSm M l o)) ∨ (¬ (gE M l ∧ gE M o) ∧ o2.1 = -1)) := by
  have l1 := hL.1
  have n20 : N 11 20 = M 3 0 := by rw [hN 11 20 (by decide) (by decide) (by decide) (by decide)]; exact l1.1
  have n175 : ∀ l, N 175 l = M 94 l := fun l => by rw [hN 175 l (by decide) (by decide) (by decide) (by decide), hS.1.1]
  have Ll := Ln_of hS (l := l) (by omega)
  have Lo := Ln_of hS (l := o) (by omega)
  have he : ∀ l, M 176 l = M 95 l ∧ M 177 l = M 96 l := fun l => ⟨by rw [hS.1.2.1], by rw [hS.1.2.2]⟩
  unfold F_X12_strip
  rw [n175, n175]
  refine b_We (e_X12_isLot (by omega)) (b_Wf (by rw [b_01_0, n20]; exact fun z => z q1) (b_We (e_X12_isLot (by omega)) (b_Wf (by rw [b_01_0, n20]; exact fun z => z q2) (b_Wf q3 (b_Wg (by omega) (b_Wf q4 (b_Wg (by omega) (b_Wf q5 ?_))))))))
  refine b_Wb (b_wp_m (fun t z => ?_) (t_isArea Ll (hc l (by omega) (by omega)) (Bd_of hb (by omega)) (he l) (Nr_0 hN) (Or.inl rfl)))
  obtain ⟨x, Q⟩ := t
  obtain ⟨z1, z2, z3⟩ := z
  dsimp only at z1 z2 z3
  refine b_Wtwo ?_
  dsimp only
  rcases z3 with ⟨z3, z4, z5⟩ | ⟨z3, z4⟩
  · refine b_Wf (by omega) ?_
    have nQ : Nr M Q := fun c j a1 a2 a3 a4 a5 a6 => by rw [z1 c j a5 a6]; exact hN c j a1 a2 a3 a4
    refine b_Wb (b_wp_m (fun t w => ?_) (t_isArea Lo (hc o (by omega) (by omega)) (Bd_of hb (by omega)) (he o) nQ (Or.inr rfl)))
    obtain ⟨x2, S⟩ := t
    obtain ⟨w1, w2, w3⟩ := w
    dsimp only at w1 w2 w3
    refine b_Wtwo ?_
    dsimp only
    rcases w3 with ⟨w3, w4, w5⟩ | ⟨w3, w4⟩
    · refine b_Wf (by omega) ?_
      have Pl := Pg_of Ll (hc l (by omega) (by omega)) (Bd_of hb (by omega)) z4.2.1.1 z4.2.1.2
      have Po := Pg_of Lo (hc o (by omega) (by omega)) (Bd_of hb (by omega)) w4.2.1.1 w4.2.1.2
      have bl := gXY_b Pl.1 Pl.2.1 Pl.2.2.1 Pl.2.2.2.1 Pl.2.2.2.2
      have bo := gXY_b Po.1 Po.2.1 Po.2.2.1 Po.2.2.2.1 Po.2.2.2.2
      have nl := Ll.2.1
      have no := Lo.2.1
      have s175 : ∀ l, S 175 l = M 94 l := fun l => by rw [w1 175 l (by decide) (by decide), z1 175 l (by decide) (by decide)]; exact n175 l
      have gl := gE_P Pl z4
      have go := gE_P Po w4
      have G : g2 S l o (gX M l) (gY M l) (gX M o) (gY M o) (M 94 l).toNat (M 94 o).toNat := by
        refine ⟨⟨by omega, by omega, by rw [s175]; omega, by rw [s175]; omega, by omega, by omega⟩, fun k hk => ?_, fun k hk => ?_, ⟨gl, go⟩, fun i hi => gX_d Pl i (by omega)⟩
        · have e := z5 k (by omega)
          rw [show (0 : Int) + (k : Int) = k by omega] at e
          have b := bl k (by omega)
          rw [(w2 (k : Int) (by omega)).1, (w2 (k : Int) (by omega)).2, e.1, e.2]
          exact ⟨⟨rfl, b.1⟩, rfl, b.2⟩
        · have e := w5 k (by omega)
          have b := bo k (by omega)
          rw [e.1, e.2]
          exact ⟨⟨rfl, b.1⟩, rfl, b.2⟩
      obtain ⟨x0, ex, nx⟩ := g2_x G (-9999)
      refine b_We ex (b_Wb (b_wp_m (fun r y => ?_) (t_grid G nx)))
      unfold F_X12_strip_b235
      refine b_Ws (Or.inl ⟨z4, w4, ?_⟩)
      dsimp only
      rw [y]
      have bx : ∀ i, i ≤ (M 94 l).toNat → (-9999 : Int) ≤ gX M l i ∧ gX M l i ≤ -9999 + ((19998 : Nat) : Int) := fun i hi => by have := bl i (by omega); omega
      have bx2 : ∀ i, i ≤ (M 94 o).toNat → (-9999 : Int) ≤ gX M o i ∧ gX M o i ≤ -9999 + ((19998 : Nat) : Int) := fun i hi => by have := bo i (by omega); omega
      have by1 : ∀ i, i ≤ (M 94 l).toNat → (-9999 : Int) ≤ gY M l i ∧ gY M l i ≤ -9999 + ((19998 : Nat) : Int) := fun i hi => by have := bl i (by omega); omega
      have by2 : ∀ i, i ≤ (M 94 o).toNat → (-9999 : Int) ≤ gY M o i ∧ gY M o i ≤ -9999 + ((19998 : Nat) : Int) := fun i hi => by have := bo i (by omega); omega
      exact (g_both gl go (S := gSm M l o) (g_sum gl.2.1.2 go.2.1.2 bx bx2 by1 by2)).symm
    · exact b_Wt w3 (b_Ws (Or.inr ⟨fun z => w4 z.2, rfl⟩))
  · exact b_Wt z3 (b_Ws (Or.inr ⟨fun z => z4 z.1, rfl⟩))
theorem op_strip {l o : Int} {M : bM} (hL : R_lots M) (hS : R_shape M) (hb : R_bd M) (hc : R_cor M) : b_wp (F_X11_strip l o M) (fun r => b_wp (F_X12_strip l o r.2) (fun r2 => r.1 = r2.1)) := by
  have l1 := hL.1
  have m20 : M 11 20 = M 3 0 := l1.1
  have rg : ∀ (x : Int), F_X12_isLot x M = some (b_01 (0 ≤ x ∧ x < M 3 0)) := fun x => by rw [e_X12_isLot (by omega), m20]
  unfold F_X11_strip
  refine b_We e_X5_has ?_
  by_cases q1 : 0 ≤ l ∧ l < M 3 0
  · refine b_Wf (b_01_p q1) (b_We e_X5_has ?_)
    by_cases q2 : 0 ≤ o ∧ o < M 3 0
    · refine b_Wf (b_01_p q2) ?_
      by_cases q3 : l = o
      · refine b_Wt q3 (b_Ws ?_)
        dsimp only
        unfold F_X12_strip
        exact b_We (rg l) (b_Wf (b_01_p q1) (b_We (rg o) (b_Wf (b_01_p q2) (b_Wt q3 (b_Ws rfl)))))
      · refine b_Wf q3 (b_Wg (by omega) ?_)
        have e175 : ∀ x, M 175 x = M 94 x := fun x => by rw [hS.1.1]
        by_cases q4 : M 94 l = 0
        · refine b_Wt q4 (b_Ws ?_)
          dsimp only
          unfold F_X12_strip
          rw [e175, e175]
          exact b_We (rg l) (b_Wf (b_01_p q1) (b_We (rg o) (b_Wf (b_01_p q2) (b_Wf q3 (b_Wg (by omega) (b_Wt q4 (b_Ws rfl)))))))
        · refine b_Wf q4 (b_Wg (by omega) ?_)
          by_cases q5 : M 94 o = 0
          · refine b_Wt q5 (b_Ws ?_)
            dsimp only
            unfold F_X12_strip
            rw [e175, e175]
            exact b_We (rg l) (b_Wf (b_01_p q1) (b_We (rg o) (b_Wf (b_01_p q2) (b_Wf q3 (b_Wg (by omega) (b_Wf q4 (b_Wg (by omega) (b_Wt q5 (b_Ws rfl)))))))))
          · refine b_Wf q5 ?_
            have Ll := Ln_of hS (l := l) (by omega)
            have Lo := Ln_of hS (l := o) (by omega)
            refine b_Wb (b_wp_m (fun t z => ?_) (t_enclose Ll (hc l (by omega) (by omega)) (Bd_of hb (by omega)) (N := M) (fun _ _ _ _ _ _ => rfl)))
            obtain ⟨x, Q⟩ := t
            obtain ⟨z1, z2⟩ := z
            dsimp only at z1 z2
            have nQ : Nf M Q := fun c j a1 a2 a3 a4 => z1 c j a1 a2
            refine b_Wtwo ?_
            dsimp only
            rcases z2 with ⟨z2, z3⟩ | ⟨z2, z3⟩
            · refine b_Wf (by omega) (b_Wb (b_wp_m (fun t w => ?_) (t_enclose Lo (hc o (by omega) (by omega)) (Bd_of hb (by omega)) nQ)))
              obtain ⟨x2, R⟩ := t
              obtain ⟨w1, w2⟩ := w
              dsimp only at w1 w2
              have nR : Nf M R := fun c j a1 a2 a3 a4 => by rw [w1 c j a1 a2]; exact nQ c j a1 a2 a3 a4
              refine b_Wtwo ?_
              dsimp only
              rcases w2 with ⟨w2, w3⟩ | ⟨w2, w3⟩
              · have Pl := Pg_of Ll (hc l (by omega) (by omega)) (Bd_of hb (by omega)) z3.2.1.1 z3.2.1.2
                have Po := Pg_of Lo (hc o (by omega) (by omega)) (Bd_of hb (by omega)) w3.2.1.1 w3.2.1.2
                refine b_Wf (by omega) (b_Wb (b_wp_m (fun t y => ?_) (t_within Pl Po nR)))
                obtain ⟨a, U⟩ := t
                obtain ⟨nU, ya⟩ := y
                dsimp only at nU ya
                refine b_Wtwo (b_Ws ?_)
                dsimp only
                refine b_wp_m (fun r2 y2 => ?_) (t_stripR hL hS hb hc nU q1 q2 q3 q4 q5)
                rcases y2 with y2 | y2
                · rw [ya, y2.2.2]
                · exact absurd ⟨z3, w3⟩ y2.1
              · refine b_Wt w2 (b_Ws ?_)
                dsimp only
                refine b_wp_m (fun r2 y2 => ?_) (t_stripR hL hS hb hc nR q1 q2 q3 q4 q5)
                rcases y2 with y2 | y2
                · exact absurd y2.2.1 w3
                · exact y2.2.symm
            · refine b_Wt z2 (b_Ws ?_)
              dsimp only
              refine b_wp_m (fun r2 y2 => ?_) (t_stripR hL hS hb hc nQ q1 q2 q3 q4 q5)
              rcases y2 with y2 | y2
              · exact absurd y2.1 z3
              · exact y2.2.symm
    · refine b_Wt (b_01_0.mpr q2) (b_Ws ?_)
      dsimp only
      unfold F_X12_strip
      exact b_We (rg l) (b_Wf (b_01_p q1) (b_We (rg o) (b_Wt (b_01_0.mpr q2) (b_Ws rfl))))
  · refine b_Wt (b_01_0.mpr q1) (b_Ws ?_)
    dsimp only
    unfold F_X12_strip
    exact b_We (rg l) (b_Wt (b_01_0.mpr q1) (b_Ws rfl))
