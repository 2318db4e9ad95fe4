/-- every label x between p and n in cell k becomes y -/
def p_rl (k : Nat) (n x y p : Int) (M : bM) : bM := fun c j => if c = k ∧ p ≤ j ∧ j < n ∧ M k j = x then y else M c j
theorem p_rl_end {k : Nat} {n x y p : Int} {M : bM} (h : n ≤ p) : p_rl k n x y p M = M := by
  funext c j
  unfold p_rl
  rw [if_neg (by omega)]
theorem p_rl_hit {k : Nat} {n x y p : Int} {M : bM} (h : p < n) (hx : M k p = x) (hxy : y ≠ x) : p_rl k n x y (p + 1) (b_up M k p y) = p_rl k n x y p M := by
  funext c j
  unfold p_rl
  by_cases hc : c = k
  · subst hc
    rw [b_upJ]
    by_cases hj : j = p
    · subst hj
      rw [if_neg (by omega), if_pos rfl, if_pos ⟨rfl, by omega, h, hx⟩]
    · rw [if_neg hj]
      by_cases q : p ≤ j ∧ j < n ∧ M c j = x
      · rw [if_pos ⟨rfl, by omega, q.2.1, q.2.2⟩, if_pos ⟨rfl, q⟩]
      · rw [if_neg (fun w => q ⟨by omega, w.2.2⟩), if_neg (fun w => q w.2)]
  · rw [if_neg (fun w => hc w.1), if_neg (fun w => hc w.1), b_upc hc]
theorem p_rl_miss {k : Nat} {n x y p : Int} {M : bM} (hx : M k p ≠ x) : p_rl k n x y (p + 1) M = p_rl k n x y p M := by
  funext c j
  unfold p_rl
  by_cases q : c = k ∧ p ≤ j ∧ j < n ∧ M k j = x
  · have : j ≠ p := fun e => hx (e ▸ q.2.2.2)
    rw [if_pos q, if_pos ⟨q.1, by omega, q.2.2⟩]
  · rw [if_neg q, if_neg (fun w => q ⟨w.1, by omega, w.2.2⟩)]
theorem e_X8_unite {a b : Int} {M : bM} (hn : 0 ≤ M 2 0 ∧ M 2 0 ≤ 80) (hm : 0 ≤ max a b) : F_X8_unite a b M = some (if a = b then M else p_rl 81 (M 2 0) (max a b) (min a b) (max a b) M) := by
  unfold F_X8_unite
  rw [b_let_s, b_let_s]
  by_cases hab : a = b
  · rw [if_pos hab, b_loop_eq]
    dsimp only
    unfold F_X8_unite_s17
    by_cases q : M 2 0 ≤ max a b
    · rw [if_pos q]; rfl
    · rw [if_neg q, if_pos hab]; rfl
  · rw [if_neg hab, b_loop_fun (r := fun t : Int × bM => p_rl 81 (M 2 0) (max a b) (min a b) t.1 t.2) (I := fun t : Int × bM => 0 ≤ t.1 ∧ t.2 2 0 = M 2 0) (m := fun t => (M 2 0 - t.1).toNat) ?_ (max a b, M) ⟨hm, rfl⟩]
    · rfl
    · intro ⟨p, N⟩ ⟨h1, h2⟩
      dsimp only at h1 h2 ⊢
      unfold F_X8_unite_s17
      rw [h2]
      by_cases q : M 2 0 ≤ p
      · exact Or.inl (by rw [if_pos q, p_rl_end q])
      · refine Or.inr ?_
        rw [if_neg q, if_neg hab, b_g_s (by omega)]
        by_cases q2 : N 81 p = max a b
        · rw [if_pos q2, b_g_s (by omega), b_let_s, b_g_s (by omega)]
          exact ⟨_, rfl, ⟨by dsimp only; omega, by dsimp only; rw [b_upc (by decide)]; exact h2⟩, by dsimp only; omega, p_rl_hit (by omega) q2 (by omega)⟩
        · rw [if_neg q2, b_g_s (by omega)]
          exact ⟨_, rfl, ⟨by dsimp only; omega, h2⟩, by dsimp only; omega, p_rl_miss q2⟩
