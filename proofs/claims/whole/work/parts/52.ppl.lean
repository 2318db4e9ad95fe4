/-- every label x between p and n in cell k becomes y -/
def p_rl (k : Nat) (n x y p : Int) (M : bM) : bM := fun c j => if c = k ∧ p ≤ j ∧ j < n ∧ M k j = x then y else M c j
theorem p_rl_end {k : Nat} {n x y p : Int} {M : bM} (h : n ≤ p) : p_rl k n x y p M = M := by
  funext c j
  unfold p_rl
  rw [if_neg (by omega)]
theorem p_rl_hit {k : Nat} {n x y p : Int} {M : bM} (h : p < n) (hx : M k p = x) (hxy : y ≠ x) : p_rl k n x y (p + 1) (b_up M k p y) = p_rl k n x y p M := by
  funext c j
  unfold p_rl
  by_cases hc : c = k
  · subst hc
    rw [b_upJ]
    by_cases hj : j = p
    · subst hj
      rw [if_neg (by omega), if_pos rfl, if_pos ⟨rfl, by omega, h, hx⟩]
    · rw [if_neg hj]
      by_cases q : p ≤ j ∧ j < n ∧ M c j = x
      · rw [if_pos ⟨rfl, by omega, q.2.1, q.2.2⟩, if_pos ⟨rfl, q⟩]
      · rw [if_neg (fun w => q ⟨by omega, w.2.2⟩), if_neg (fun w => q w.2)]
  · rw [if_neg (fun w => hc w.1), if_neg (fun w => hc w.1), b_upc hc]
theorem p_rl_miss {k : Nat} {n x y p : Int} {M : bM} (hx : M k p ≠ x) : p_rl k n x y (p + 1) M = p_rl k n x y p M := by
  funext c j
  unfold p_rl
  by_cases q : c = k ∧ p ≤ j ∧ j < n ∧ M k j = x
  · have : j ≠ p := fun e => hx (e ▸ q.2.2.2)
    rw [if_pos q, if_pos ⟨q.1, by omega, q.2.2⟩]
  · rw [if_neg q, if_neg (fun w => q ⟨w.1, by omega, w.2.2⟩)]
theorem e_X8_unite {a b : Int} {M : bM} (hn : 0 ≤ M 2 0 ∧ M 2 0 ≤ 80) (hm : 0 ≤ max a b) : F_X8_unite a b M = some (if a = b then M else p_rl 81 (M 2 0) (max a b) (min a b) (max a b) M) := by
  unfold F_X8_unite
  rw [b_let_s, b_let_s]
  by_cases hab : a = b
  · rw [if_pos hab, b_loop_eq]
    dsimp only
    unfold F_X8_unite_s17
    by_cases q : M 2 0 ≤ max a b
    · rw [if_pos q]; rfl
    · rw [if_neg q, if_pos hab]; rfl
  · rw [if_neg hab, b_loop_fun (r := fun t : Int × bM => p_rl 81 (M 2 0) (max a b) (min a b) t.1 t.2) (I := fun t : Int × bM => 0 ≤ t.1 ∧ t.2 2 0 = M 2 0) (m := fun t => (M 2 0 - t.1).toNat) ?_ (max a b, M) ⟨hm, rfl⟩]
    · rfl
    · intro ⟨p, N⟩ ⟨h1, h2⟩
      dsimp only at h1 h2 ⊢
      unfold F_X8_unite_s17
      rw [h2]
      by_cases q : M 2 0 ≤ p
      · exact Or.inl (by rw [if_pos q, p_rl_end q])
      · refine Or.inr ?_
        rw [if_neg q, if_neg hab, b_g_s (by omega)]
        by_cases q2 : N 81 p = max a b
        · rw [if_pos q2, b_g_s (by omega), b_let_s, b_g_s (by omega)]
          exact ⟨_, rfl, ⟨by dsimp only; omega, by dsimp only; rw [b_upc (by decide)]; exact h2⟩, by dsimp only; omega, p_rl_hit (by omega) q2 (by omega)⟩
        · rw [if_neg q2, b_g_s (by omega)]
          exact ⟨_, rfl, ⟨by dsimp only; omega, h2⟩, by dsimp only; omega, p_rl_miss q2⟩
theorem b_up_id {M : bM} {c : Nat} {i x : Int} (h : M c i = x) : b_up M c i x = M := by
  funext c2 j
  unfold b_up
  by_cases q : c2 = c ∧ j = i
  · obtain ⟨rfl, rfl⟩ := q
    rw [if_pos ⟨rfl, rfl⟩, h]
  · rw [if_neg q]
theorem e_mk152 {v1 v3 a b lo p : Int} {M : bM} (h : 0 ≤ p ∧ p < 80) : F_X12_makeOnes_b152 v1 v3 a b lo p M = some (.inl (p + 1, b_up M 168 p lo)) := by
  unfold F_X12_makeOnes_b152
  rw [b_g_s h, b_let_s, b_g_s (by omega)]
theorem e_mk119 {v1 v3 a b : Int} {M : bM} (hn : 0 ≤ M 11 12 ∧ M 11 12 ≤ 80) (hab : a ≠ b) : b_loop (fun t : Int × bM => F_X12_makeOnes_s119 v1 v3 a b (min a b) t.1 t.2) (0, M) = some (p_rl 168 (M 11 12) (max a b) (min a b) 0 M) := by
  rw [b_loop_fun (r := fun t : Int × bM => p_rl 168 (M 11 12) (max a b) (min a b) t.1 t.2) (I := fun t : Int × bM => 0 ≤ t.1 ∧ t.2 11 12 = M 11 12) (m := fun t => (M 11 12 - t.1).toNat) ?_ (0, M) ⟨by dsimp only; omega, rfl⟩]
  intro ⟨p, N⟩ ⟨h1, h2⟩
  dsimp only at h1 h2 ⊢
  unfold F_X12_makeOnes_s119
  rw [h2]
  by_cases q : M 11 12 ≤ p
  · exact Or.inl (by rw [if_pos q, p_rl_end q])
  · refine Or.inr ?_
    have k : ∃ s2 : Int × bM, (some (Sum.inl (p + 1, b_up N 168 p (min a b))) : Option ((Int × bM) ⊕ bM)) = some (Sum.inl s2) ∧ (0 ≤ s2.1 ∧ s2.2 11 12 = M 11 12) ∧ (M 11 12 - s2.1).toNat < (M 11 12 - p).toNat ∧ (N 168 p = a ∨ N 168 p = b → p_rl 168 (M 11 12) (max a b) (min a b) s2.1 s2.2 = p_rl 168 (M 11 12) (max a b) (min a b) p N) := by
      refine ⟨_, rfl, ⟨by dsimp only; omega, by dsimp only; rw [b_upc (by decide)]; exact h2⟩, by dsimp only; omega, fun w => ?_⟩
      dsimp only
      by_cases q2 : N 168 p = max a b
      · exact p_rl_hit (by omega) q2 (by omega)
      · rw [b_up_id (by omega)]
        exact p_rl_miss q2
    rw [if_neg q, b_g_s (by omega)]
    by_cases q2 : N 168 p = a
    · rw [if_pos q2, e_mk152 (by omega)]
      obtain ⟨s2, e1, e2, e3, e4⟩ := k
      exact ⟨s2, e1, e2, e3, e4 (Or.inl q2)⟩
    · rw [if_neg q2, b_g_s (by omega)]
      by_cases q3 : N 168 p = b
      · rw [if_pos q3, e_mk152 (by omega)]
        obtain ⟨s2, e1, e2, e3, e4⟩ := k
        exact ⟨s2, e1, e2, e3, e4 (Or.inr q3)⟩
      · rw [if_neg q3, b_g_s (by omega)]
        clear k
        have hne : N 168 p ≠ max a b := fun w => by
          rcases Int.le_total a b with u | u
          · rw [Int.max_eq_right u] at w; exact q3 w
          · rw [Int.max_eq_left u] at w; exact q2 w
        exact ⟨_, rfl, ⟨by dsimp only; omega, h2⟩, by dsimp only; omega, p_rl_miss hne⟩
/-- places from p to n of cell k hold their own number -/
def p_id (k : Nat) (n p : Int) (M : bM) : bM := fun c j => if c = k ∧ p ≤ j ∧ j < n then j else M c j
theorem p_id_end {k : Nat} {n p : Int} {M : bM} (h : n ≤ p) : p_id k n p M = M := by
  funext c j
  unfold p_id
  rw [if_neg (by omega)]
theorem p_id_s {k : Nat} {n p : Int} {M : bM} (h : p < n) : p_id k n (p + 1) (b_up M k p p) = p_id k n p M := by
  funext c j
  unfold p_id
  by_cases hc : c = k
  · subst hc
    rw [b_upJ]
    by_cases hj : j = p
    · subst hj
      rw [if_neg (by omega), if_pos rfl, if_pos ⟨rfl, by omega, h⟩]
    · rw [if_neg hj]
      by_cases q : p ≤ j ∧ j < n
      · rw [if_pos ⟨rfl, by omega, q.2⟩, if_pos ⟨rfl, q⟩]
      · rw [if_neg (fun w => q ⟨by omega, w.2.2⟩), if_neg (fun w => q w.2)]
  · rw [if_neg (fun w => hc w.1), if_neg (fun w => hc w.1), b_upc hc]
theorem e_mk2 {v1 : Int} {M : bM} (hn : 0 ≤ M 11 12 ∧ M 11 12 ≤ 80) : b_loop (fun t : Int × bM => F_X12_makeOnes_s2 v1 t.1 t.2) (0, M) = some (p_id 168 (M 11 12) 0 M) := by
  rw [b_loop_fun (r := fun t : Int × bM => p_id 168 (M 11 12) t.1 t.2) (I := fun t : Int × bM => 0 ≤ t.1 ∧ t.2 11 12 = M 11 12) (m := fun t => (M 11 12 - t.1).toNat) ?_ (0, M) ⟨by dsimp only; omega, rfl⟩]
  intro ⟨p, N⟩ ⟨h1, h2⟩
  dsimp only at h1 h2 ⊢
  unfold F_X12_makeOnes_s2
  rw [h2]
  by_cases q : M 11 12 ≤ p
  · exact Or.inl (by rw [if_pos q, p_id_end q])
  · refine Or.inr ?_
    rw [if_neg q, b_g_s (by omega), b_let_s, b_g_s (by omega)]
    exact ⟨_, rfl, ⟨by dsimp only; omega, by dsimp only; rw [b_upc (by decide)]; exact h2⟩, by dsimp only; omega, p_id_s (by omega)⟩
