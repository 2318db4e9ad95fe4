/-- weights are kept where reading has failed: every weight by an ACT that is counted -/
theorem x_wtF {M Z : bM} {k a : Int} (hRu : R_rules M) (hPr : R_prog M) (ha : 0 ≤ a ∧ a ≤ M 4 0) (k183 : ∀ j, j < 88 ∨ 99 ≤ j → Z 183 j = M 183 j) (o4 : ∀ j, j < 192 → (Z 184 j = M 184 j ∧ Z 185 j = M 185 j) ∧ Z 187 j = M 187 j) (o8 : ∀ j, j < 19200 → Z 188 j = M 188 j) (o9 : ∀ j, j < 2304 → Z 189 j = M 189 j ∧ Z 190 j = M 190 j ∧ Z 191 j = M 191 j) (o2 : ∀ j, j < 13824 → Z 192 j = M 192 j ∧ Z 193 j = M 193 j) (zr : ∀ (z : Nat) (j : Int), z = 194 ∨ z = 205 ∨ z = 206 ∨ z = 207 → Z z j = M z j) : x_wt Z a k = x_wt M a k := by
  have m1 := hRu.1
  by_cases ea : a = 0
  · subst ea
    unfold x_wt
    rw [if_pos rfl, if_pos rfl]
  · obtain ⟨x1, x2⟩ := x_n183 hRu (a := a.toNat) ⟨by omega, by omega⟩
    rw [show ((a.toNat : Nat) : Int) = a by omega] at x1
    exact x_wt_m (M := M) (N := Z) (by omega) (by omega) (k183 _ (by omega)) (fun j j0 j1 => ⟨(o4 j (by omega)).1.1, (o4 j (by omega)).1.2, (o4 j (by omega)).2⟩) (fun j j0 j1 => o8 j (by omega)) (fun j j0 j1 => o9 j (by omega)) (fun j j0 j1 => o2 j (by omega)) (fun j j0 j1 => hPr a (by omega) (by omega) j j0 j1) (zr 194 k (by omega)) (fun v => x_mk_c (zr 207 k (by omega)) (fun i _ _ => ⟨zr 205 _ (by omega), zr 206 _ (by omega)⟩) v)
theorem t_wtsF {M Z : bM} (hRu : R_rules M) (hPr : R_prog M) (hWt : R_wts M) (k5 : Z 5 0 = M 5 0) (k40 : Z 4 0 = M 4 0) (k124 : ∀ j, Z 124 j = M 124 j) (k183 : ∀ j, j < 88 ∨ 99 ≤ j → Z 183 j = M 183 j) (o4 : ∀ j, j < 192 → (Z 184 j = M 184 j ∧ Z 185 j = M 185 j) ∧ Z 187 j = M 187 j) (o8 : ∀ j, j < 19200 → Z 188 j = M 188 j) (o9 : ∀ j, j < 2304 → Z 189 j = M 189 j ∧ Z 190 j = M 190 j ∧ Z 191 j = M 191 j) (o2 : ∀ j, j < 13824 → Z 192 j = M 192 j ∧ Z 193 j = M 193 j) (zr : ∀ (z : Nat) (j : Int), z = 194 ∨ z = 205 ∨ z = 206 ∨ z = 207 → Z z j = M z j) : R_wts Z := by
  intro k k0 k1 a a0 a1
  rw [k5] at k1
  rw [k40] at a1
  rw [k124, x_wtF hRu hPr ⟨a0, a1⟩ k183 o4 o8 o9 o2 zr]
  exact hWt k k0 k1 a a0 a1
