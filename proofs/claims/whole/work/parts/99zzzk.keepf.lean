/-- ACTS are kept where reading has failed -/
theorem t_keepF {M Z : bM} {cc : Nat} (hRu : R_rules M) (hPr : R_prog M) (hCo : R_code M) (hcc : (cc : Int) = 13 + M 4 0) (k40 : Z 4 0 = M 4 0) (k35 : Z 11 35 = M 11 35) (kO : ∀ (z : Nat) (j : Int), 12 ≤ z → z < 72 → z % 10 ≠ cc % 10 → Z z j = M z j) (kG : ∀ j, Z 1000 j = M 1000 j) (k182 : ∀ j, Z 182 j = M 182 j) (k183 : ∀ j, j < 88 ∨ 99 ≤ j → Z 183 j = M 183 j) (o4 : ∀ j, j < 192 → (Z 184 j = M 184 j ∧ Z 185 j = M 185 j) ∧ Z 187 j = M 187 j) (o8 : ∀ j, j < 19200 → Z 188 j = M 188 j) (o9 : ∀ j, j < 2304 → Z 189 j = M 189 j ∧ Z 190 j = M 190 j ∧ Z 191 j = M 191 j) (o2 : ∀ j, j < 13824 → Z 192 j = M 192 j ∧ Z 193 j = M 193 j) : R_rules Z ∧ R_prog Z ∧ R_code Z := by
  have m1 := hRu.1
  have old : ∀ (p : Int) (cf df : Int → Int) (s e : Int), p < 192 → Pc M cf s e p → W_prog M p → (∀ x, df x = cf x) → Pc Z df s e p ∧ W_prog Z p := by
    intro p cf df s e hp hP hW hx
    exact Pc_mv hP hW (o4 p hp).1.2 (o4 p hp).2 (fun m m0 m1 => o8 _ (by omega)) (fun t t0 t1 => o9 _ (by omega)) (fun y y0 y1 => o2 _ (by omega)) (fun x _ _ => hx x)
  have n183 : ∀ a : Nat, 1 ≤ a → (a : Int) ≤ M 4 0 → M 183 (11 * ((a : Int) - 1) + 10) = M (12 + a) 1 ∧ (0 ≤ M (12 + a) 1 ∧ M (12 + a) 1 ≤ 24) := fun a a1 a2 => x_n183 hRu ⟨a1, a2⟩
  refine ⟨⟨⟨by omega, by omega, by omega⟩, fun a a1 a2 => ?_, fun a a2 => ?_⟩, fun a a1 a2 j j0 j1 => ?_, fun a a1 a2 => ?_⟩
  · rw [k40] at a2
    rw [k182, kO (12 + a) 0 (by omega) (by omega) (by omega)]
    exact hRu.2.1 a a1 a2
  · rw [k40] at a2
    obtain ⟨t1, t2, t3, t4⟩ := hRu.2.2 a a2
    have rw3 : ∀ y, 0 ≤ y → y < 11 → Z 183 (11 * x_mod (a : Int) + y) = M 183 (11 * x_mod (a : Int) + y) := by
      intro y y0 y1
      refine k183 _ ?_
      unfold x_mod
      by_cases z : (a : Int) = 0
      · rw [if_pos z]; omega
      · rw [if_neg z]; omega
    rw [kO (12 + a) 1 (by omega) (by omega) (by omega), rw3 10 (by decide) (by decide)]
    refine ⟨t1, t2, t3, fun y y0 y1 => ?_⟩
    rw [kO (22 + a) y (by omega) (by omega) (by omega), rw3 y y0 (by omega)]
    exact t4 y y0 y1
  · rw [k40] at a2
    rw [k183 _ (by omega)] at j1
    have W := hPr a a1 a2 j j0 j1
    obtain ⟨x1, x2⟩ := n183 a.toNat (by omega) (by omega)
    rw [show ((a.toNat : Nat) : Int) = a by omega] at x1
    have A := (hCo a.toNat (by omega) (by omega)).2 j j0 (by omega)
    have P := A.2.2.2.2
    rw [show ((a.toNat : Nat) : Int) = a by omega] at P
    exact (old (24 * (a - 1) + j) _ _ _ _ (by omega) P W (fun x => rfl)).2
  · rw [k40] at a2
    obtain ⟨⟨A1, A2⟩, A3⟩ := hCo a a1 a2
    obtain ⟨x1, x2⟩ := n183 a a1 a2
    unfold A_code
    rw [kO (52 + a) 0 (by omega) (by omega) (by omega), kG, kO (12 + a) 1 (by omega) (by omega) (by omega)]
    refine ⟨⟨A1, A2⟩, fun j j0 j1 => ?_⟩
    obtain ⟨B1, B2, B3, B4, B5⟩ := A3 j j0 j1
    have W := hPr a (by omega) (by omega) j j0 (by omega)
    rw [kO (32 + a) j (by omega) (by omega) (by omega), kO (52 + a) j (by omega) (by omega) (by omega), kO (52 + a) (j + 1) (by omega) (by omega) (by omega), (o4 _ (by omega)).1.1, (o4 _ (by omega)).1.2]
    exact ⟨B1, B2, B3, B4, (old _ _ _ _ _ (by omega) B5 W (fun x => kO (62 + a) x (by omega) (by omega) (by omega))).1⟩
