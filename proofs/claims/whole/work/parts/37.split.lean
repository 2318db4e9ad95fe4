def l_cs (d g : Int) (xs : List Int) (M : bM) : bM := xs.foldl (fun M x => l_c x d g M) M
def l_ms (d g : Int) (xs : List Int) (N : bM) : bM := xs.foldl (fun N x => l_m x d g N) N
theorem R_lots2_adds {d g : Int} (hd : 0 ≤ d ∧ d ≤ 9999) : ∀ (xs : List Int) {M N : bM}, R_lots2 M N → (∀ x ∈ xs, 1 ≤ x ∧ x ≤ 999999) → M 3 0 + xs.length ≤ 60 → R_lots2 (l_cs d g xs M) (l_ms d g xs N) := by
  intro xs
  induction xs with
  | nil => intro M N h _ _; exact h
  | cons x xs ih =>
    intro M N h hx hn
    simp only [List.length_cons] at hn
    refine ih (R_lots2_add h (hx x List.mem_cons_self) hd (by omega)) (fun y hy => hx y (List.mem_cons_of_mem _ hy)) ?_
    show l_c x d g M 3 0 + _ ≤ 60
    rw [l_c_n]
    omega
theorem l_cs_end {d g l e : Int} : ∀ (xs : List Int) {M : bM}, l < M 3 0 → b_up (l_cs d g xs M) 88 l e = l_cs d g xs (b_up M 88 l e) := by
  intro xs
  induction xs with
  | nil => intro M _; rfl
  | cons x xs ih =>
    intro M h
    show b_up (l_cs d g xs (l_c x d g M)) 88 l e = l_cs d g xs (l_c x d g (b_up M 88 l e))
    rw [ih (by rw [l_c_n]; omega), l_c_end (by omega)]
theorem l_cs_lack {d g l e : Int} : ∀ (xs : List Int) {M : bM}, b_up (l_cs d g xs M) 89 l e = l_cs d g xs (b_up M 89 l e) := by
  intro xs
  induction xs with
  | nil => intro M; rfl
  | cons x xs ih =>
    intro M
    show b_up (l_cs d g xs (l_c x d g M)) 89 l e = l_cs d g xs (l_c x d g (b_up M 89 l e))
    rw [ih, l_c_lack]
theorem l_cs_n {d g : Int} : ∀ (xs : List Int) {M : bM}, l_cs d g xs M 3 0 = M 3 0 + xs.length := by
  intro xs
  induction xs with
  | nil => intro M; show M 3 0 = M 3 0 + 0; omega
  | cons x xs ih =>
    intro M
    show l_cs d g xs (l_c x d g M) 3 0 = _
    rw [ih, l_c_n, List.length_cons]
    omega
theorem l_cs_86 {d g i : Int} : ∀ (xs : List Int) {M : bM}, i < M 3 0 → l_cs d g xs M 86 i = M 86 i := by
  intro xs
  induction xs with
  | nil => intro M _; rfl
  | cons x xs ih =>
    intro M h
    show l_cs d g xs (l_c x d g M) 86 i = _
    rw [ih (by rw [l_c_n]; omega), l_c_86 (by omega)]
theorem l_cs_91 {d g i : Int} : ∀ (xs : List Int) {M : bM}, i < M 3 0 → l_cs d g xs M 91 i = M 91 i := by
  intro xs
  induction xs with
  | nil => intro M _; rfl
  | cons x xs ih =>
    intro M h
    show l_cs d g xs (l_c x d g M) 91 i = _
    rw [ih (by rw [l_c_n]; omega), l_c_91 (by omega)]
theorem l_cs_o {d g : Int} {c : Nat} (h : c ∉ [3, 86, 87, 88, 91, 92]) : ∀ (xs : List Int) {M : bM}, l_cs d g xs M c = M c := by
  intro xs
  induction xs with
  | nil => intro M; rfl
  | cons x xs ih =>
    intro M
    show l_cs d g xs (l_c x d g M) c = _
    rw [ih, l_c_o h]
abbrev b_ft (x : Int) : Prop := 1 ≤ x ∧ x ≤ 999999
theorem e_ffs {n k : Int} {M : bM} (hk : 0 ≤ k) : F_X5_fourAreFeet_s2 n k M = if n ≤ k ∨ 4 ≤ k then some (.inr (.inl ())) else if b_ft (M 99 k) then some (.inl (k + 1)) else some (.inr (.inr 0)) := by
  unfold F_X5_fourAreFeet_s2
  by_cases q1 : n ≤ k
  · rw [if_pos q1, if_pos (Or.inl q1)]
  · by_cases q2 : 4 ≤ k
    · rw [if_neg q1, if_pos q2, if_pos (Or.inr q2)]
    · rw [if_neg q1, if_neg q2, if_neg (by omega), b_g_s (by omega), e_X5_isFeet, b_bind_s]
      by_cases q3 : b_ft (M 99 k)
      · rw [if_neg (by rw [b_01_0]; exact fun w => w q3), b_g_s (by omega), if_pos q3]
      · rw [if_pos (by rw [b_01_0]; exact q3), if_neg q3]
theorem e_ffl {n k : Int} {M : bM} (hk : 0 ≤ k) : b_bind (b_loop (fun t => F_X5_fourAreFeet_s2 n t M) k) (Sum.elim (fun _ => F_X5_fourAreFeet_b32 M) some) = if n ≤ k ∨ 4 ≤ k then some 1 else if b_ft (M 99 k) then b_bind (b_loop (fun t => F_X5_fourAreFeet_s2 n t M) (k + 1)) (Sum.elim (fun _ => F_X5_fourAreFeet_b32 M) some) else some 0 := by
  rw [b_loop_eq, e_ffs hk]
  by_cases q1 : n ≤ k ∨ 4 ≤ k
  · rw [if_pos q1, if_pos q1]; rfl
  · rw [if_neg q1, if_neg q1]
    by_cases q3 : b_ft (M 99 k)
    · rw [if_pos q3, if_pos q3]; rfl
    · rw [if_neg q3, if_neg q3]; rfl
theorem e_X5_fourAreFeet {n : Int} {M : bM} (hn : 2 ≤ n ∧ n ≤ 4) : F_X5_fourAreFeet n M = some (b_01 (b_ft (M 99 0) ∧ b_ft (M 99 1) ∧ (n ≤ 2 ∨ b_ft (M 99 2)) ∧ (n ≤ 3 ∨ b_ft (M 99 3)))) := by
  unfold F_X5_fourAreFeet
  rw [e_ffl (by omega), e_ffl (by omega), e_ffl (by omega), e_ffl (by omega), e_ffl (by omega)]
  simp only [Int.zero_add, Int.reduceAdd]
  unfold b_01
  rw [if_neg (by omega)]
  by_cases h0 : b_ft (M 99 0)
  · rw [if_pos h0, if_neg (by omega)]
    by_cases h1 : b_ft (M 99 1)
    · rw [if_pos h1]
      by_cases n2 : n ≤ 2
      · rw [if_pos (by omega), if_pos ⟨h0, h1, Or.inl n2, Or.inl (by omega)⟩]
      · rw [if_neg (by omega)]
        by_cases h2 : b_ft (M 99 2)
        · rw [if_pos h2]
          by_cases n3 : n ≤ 3
          · rw [if_pos (by omega), if_pos ⟨h0, h1, Or.inr h2, Or.inl n3⟩]
          · rw [if_neg (by omega)]
            by_cases h3 : b_ft (M 99 3)
            · rw [if_pos h3, if_pos (by omega), if_pos ⟨h0, h1, Or.inr h2, Or.inr h3⟩]
            · rw [if_neg h3, if_neg (fun w => w.2.2.2.elim n3 h3)]
        · rw [if_neg h2, if_neg (fun w => w.2.2.1.elim n2 h2)]
    · rw [if_neg h1, if_neg (fun w => h1 w.2.1)]
  · rw [if_neg h0, if_neg (fun w => h0 w.1)]
theorem e_div_s {l day n v4 v5 i : Int} {M : bM} (hi : 0 ≤ i ∧ i < n ∧ i < 4) (hl : 0 ≤ l ∧ l < M 3 0) (hn : M 3 0 < 60) (hf : b_ft (M 99 i)) (h5 : 0 ≤ v5 ∧ v5 ≤ 4000000) : F_X5_divide_s23 l day n v4 v5 i M = some (.inl (v5 + M 99 i, i + 1, l_c (M 99 i) day (M 91 l) M)) := by
  unfold F_X5_divide_s23
  rw [if_neg (by omega), if_neg (by omega), b_g_s (by omega), e_X5_add (by omega), b_bind_s, b_two_s, l_c_o (by decide), b_g_s (by unfold b_ft at hf; omega), b_let_s, b_g_s (by omega)]
theorem e_div2 {l day : Int} {M : bM} (hl : 0 ≤ l ∧ l < M 3 0) (hn : M 3 0 + 2 ≤ 60) (hr : 1 ≤ M 86 l ∧ M 86 l ≤ 999999) (h0 : b_ft (M 99 0)) (h1 : b_ft (M 99 1)) : F_X5_divide l day 2 M = some (M 3 0, b_up (b_up (l_cs day (M 91 l) [M 99 0, M 99 1] M) 88 l day) 89 l (M 86 l - (0 + M 99 0 + M 99 1))) := by
  unfold F_X5_divide
  rw [e_X5_has, b_bind_s, if_neg (by rw [b_01_0]; omega)]
  unfold b_ft at h0 h1
  have s0 : F_X5_divide_s23 l day 2 (M 3 0) (0) (0) M = some (.inl (0 + M 99 0, 0 + 1, (l_c (M 99 0) day (M 91 l) M))) := by
    have e1 : M 99 (0) = M 99 0 := by rfl
    have e2 : M 91 l = M 91 l := by rfl
    have e3 : M 3 0 = M 3 0 + 0 := by omega
    rw [e_div_s (by omega) (by omega) (by omega) (by rw [e1]; exact h0) (by omega), e1, e2]
  have s1 : F_X5_divide_s23 l day 2 (M 3 0) (0 + M 99 0) (0 + 1) (l_c (M 99 0) day (M 91 l) M) = some (.inl (0 + M 99 0 + M 99 1, 0 + 1 + 1, (l_c (M 99 1) day (M 91 l) (l_c (M 99 0) day (M 91 l) M)))) := by
    have e1 : (l_c (M 99 0) day (M 91 l) M) 99 (0 + 1) = M 99 1 := by rw [l_c_o (c := 99) (by decide)]; rfl
    have e2 : (l_c (M 99 0) day (M 91 l) M) 91 l = M 91 l := by rw [l_c_91 (by (try simp only [l_c_n]); omega)]
    have e3 : (l_c (M 99 0) day (M 91 l) M) 3 0 = M 3 0 + 1 := by simp only [l_c_n]; try omega
    rw [e_div_s (by omega) (by omega) (by omega) (by rw [e1]; exact h1) (by omega), e1, e2]
  rw [b_loop_eq]
  dsimp only
  rw [s0]
  show b_bind (b_loop _ (0 + M 99 0, 0 + 1, (l_c (M 99 0) day (M 91 l) M))) _ = _
  rw [b_loop_eq]
  dsimp only
  rw [s1]
  show b_bind (b_loop _ (0 + M 99 0 + M 99 1, 0 + 1 + 1, (l_c (M 99 1) day (M 91 l) (l_c (M 99 0) day (M 91 l) M)))) _ = _
  rw [b_loop_eq]
  dsimp only
  rw [show F_X5_divide_s23 l day 2 (M 3 0) (0 + M 99 0 + M 99 1) (0 + 1 + 1) (l_c (M 99 1) day (M 91 l) (l_c (M 99 0) day (M 91 l) M)) = some (.inr (0 + M 99 0 + M 99 1, (l_c (M 99 1) day (M 91 l) (l_c (M 99 0) day (M 91 l) M)))) by unfold F_X5_divide_s23; rw [if_pos (by omega)]]
  show F_X5_divide_b72 l day (M 3 0) (0 + M 99 0 + M 99 1) (l_c (M 99 1) day (M 91 l) (l_c (M 99 0) day (M 91 l) M)) = _
  have e86 : (l_c (M 99 1) day (M 91 l) (l_c (M 99 0) day (M 91 l) M)) 86 l = M 86 l := by rw [l_c_86 (by (try simp only [l_c_n]); omega), l_c_86 (by (try simp only [l_c_n]); omega)]
  unfold F_X5_divide_b72
  rw [b_g_s (by omega), b_let_s, b_upc (by decide), e86, b_g_s (by omega), b_let_s]
  rfl
theorem e_div3 {l day : Int} {M : bM} (hl : 0 ≤ l ∧ l < M 3 0) (hn : M 3 0 + 3 ≤ 60) (hr : 1 ≤ M 86 l ∧ M 86 l ≤ 999999) (h0 : b_ft (M 99 0)) (h1 : b_ft (M 99 1)) (h2 : b_ft (M 99 2)) : F_X5_divide l day 3 M = some (M 3 0, b_up (b_up (l_cs day (M 91 l) [M 99 0, M 99 1, M 99 2] M) 88 l day) 89 l (M 86 l - (0 + M 99 0 + M 99 1 + M 99 2))) := by
  unfold F_X5_divide
  rw [e_X5_has, b_bind_s, if_neg (by rw [b_01_0]; omega)]
  unfold b_ft at h0 h1 h2
  have s0 : F_X5_divide_s23 l day 3 (M 3 0) (0) (0) M = some (.inl (0 + M 99 0, 0 + 1, (l_c (M 99 0) day (M 91 l) M))) := by
    have e1 : M 99 (0) = M 99 0 := by rfl
    have e2 : M 91 l = M 91 l := by rfl
    have e3 : M 3 0 = M 3 0 + 0 := by omega
    rw [e_div_s (by omega) (by omega) (by omega) (by rw [e1]; exact h0) (by omega), e1, e2]
  have s1 : F_X5_divide_s23 l day 3 (M 3 0) (0 + M 99 0) (0 + 1) (l_c (M 99 0) day (M 91 l) M) = some (.inl (0 + M 99 0 + M 99 1, 0 + 1 + 1, (l_c (M 99 1) day (M 91 l) (l_c (M 99 0) day (M 91 l) M)))) := by
    have e1 : (l_c (M 99 0) day (M 91 l) M) 99 (0 + 1) = M 99 1 := by rw [l_c_o (c := 99) (by decide)]; rfl
    have e2 : (l_c (M 99 0) day (M 91 l) M) 91 l = M 91 l := by rw [l_c_91 (by (try simp only [l_c_n]); omega)]
    have e3 : (l_c (M 99 0) day (M 91 l) M) 3 0 = M 3 0 + 1 := by simp only [l_c_n]; try omega
    rw [e_div_s (by omega) (by omega) (by omega) (by rw [e1]; exact h1) (by omega), e1, e2]
  have s2 : F_X5_divide_s23 l day 3 (M 3 0) (0 + M 99 0 + M 99 1) (0 + 1 + 1) (l_c (M 99 1) day (M 91 l) (l_c (M 99 0) day (M 91 l) M)) = some (.inl (0 + M 99 0 + M 99 1 + M 99 2, 0 + 1 + 1 + 1, (l_c (M 99 2) day (M 91 l) (l_c (M 99 1) day (M 91 l) (l_c (M 99 0) day (M 91 l) M))))) := by
    have e1 : (l_c (M 99 1) day (M 91 l) (l_c (M 99 0) day (M 91 l) M)) 99 (0 + 1 + 1) = M 99 2 := by rw [l_c_o (c := 99) (by decide), l_c_o (c := 99) (by decide)]; rfl
    have e2 : (l_c (M 99 1) day (M 91 l) (l_c (M 99 0) day (M 91 l) M)) 91 l = M 91 l := by rw [l_c_91 (by (try simp only [l_c_n]); omega), l_c_91 (by (try simp only [l_c_n]); omega)]
    have e3 : (l_c (M 99 1) day (M 91 l) (l_c (M 99 0) day (M 91 l) M)) 3 0 = M 3 0 + 2 := by simp only [l_c_n]; try omega
    rw [e_div_s (by omega) (by omega) (by omega) (by rw [e1]; exact h2) (by omega), e1, e2]
  rw [b_loop_eq]
  dsimp only
  rw [s0]
  show b_bind (b_loop _ (0 + M 99 0, 0 + 1, (l_c (M 99 0) day (M 91 l) M))) _ = _
  rw [b_loop_eq]
  dsimp only
  rw [s1]
  show b_bind (b_loop _ (0 + M 99 0 + M 99 1, 0 + 1 + 1, (l_c (M 99 1) day (M 91 l) (l_c (M 99 0) day (M 91 l) M)))) _ = _
  rw [b_loop_eq]
  dsimp only
  rw [s2]
  show b_bind (b_loop _ (0 + M 99 0 + M 99 1 + M 99 2, 0 + 1 + 1 + 1, (l_c (M 99 2) day (M 91 l) (l_c (M 99 1) day (M 91 l) (l_c (M 99 0) day (M 91 l) M))))) _ = _
  rw [b_loop_eq]
  dsimp only
  rw [show F_X5_divide_s23 l day 3 (M 3 0) (0 + M 99 0 + M 99 1 + M 99 2) (0 + 1 + 1 + 1) (l_c (M 99 2) day (M 91 l) (l_c (M 99 1) day (M 91 l) (l_c (M 99 0) day (M 91 l) M))) = some (.inr (0 + M 99 0 + M 99 1 + M 99 2, (l_c (M 99 2) day (M 91 l) (l_c (M 99 1) day (M 91 l) (l_c (M 99 0) day (M 91 l) M))))) by unfold F_X5_divide_s23; rw [if_pos (by omega)]]
  show F_X5_divide_b72 l day (M 3 0) (0 + M 99 0 + M 99 1 + M 99 2) (l_c (M 99 2) day (M 91 l) (l_c (M 99 1) day (M 91 l) (l_c (M 99 0) day (M 91 l) M))) = _
  have e86 : (l_c (M 99 2) day (M 91 l) (l_c (M 99 1) day (M 91 l) (l_c (M 99 0) day (M 91 l) M))) 86 l = M 86 l := by rw [l_c_86 (by (try simp only [l_c_n]); omega), l_c_86 (by (try simp only [l_c_n]); omega), l_c_86 (by (try simp only [l_c_n]); omega)]
  unfold F_X5_divide_b72
  rw [b_g_s (by omega), b_let_s, b_upc (by decide), e86, b_g_s (by omega), b_let_s]
  rfl
theorem e_div4 {l day : Int} {M : bM} (hl : 0 ≤ l ∧ l < M 3 0) (hn : M 3 0 + 4 ≤ 60) (hr : 1 ≤ M 86 l ∧ M 86 l ≤ 999999) (h0 : b_ft (M 99 0)) (h1 : b_ft (M 99 1)) (h2 : b_ft (M 99 2)) (h3 : b_ft (M 99 3)) : F_X5_divide l day 4 M = some (M 3 0, b_up (b_up (l_cs day (M 91 l) [M 99 0, M 99 1, M 99 2, M 99 3] M) 88 l day) 89 l (M 86 l - (0 + M 99 0 + M 99 1 + M 99 2 + M 99 3))) := by
  unfold F_X5_divide
  rw [e_X5_has, b_bind_s, if_neg (by rw [b_01_0]; omega)]
  unfold b_ft at h0 h1 h2 h3
  have s0 : F_X5_divide_s23 l day 4 (M 3 0) (0) (0) M = some (.inl (0 + M 99 0, 0 + 1, (l_c (M 99 0) day (M 91 l) M))) := by
    have e1 : M 99 (0) = M 99 0 := by rfl
    have e2 : M 91 l = M 91 l := by rfl
    have e3 : M 3 0 = M 3 0 + 0 := by omega
    rw [e_div_s (by omega) (by omega) (by omega) (by rw [e1]; exact h0) (by omega), e1, e2]
  have s1 : F_X5_divide_s23 l day 4 (M 3 0) (0 + M 99 0) (0 + 1) (l_c (M 99 0) day (M 91 l) M) = some (.inl (0 + M 99 0 + M 99 1, 0 + 1 + 1, (l_c (M 99 1) day (M 91 l) (l_c (M 99 0) day (M 91 l) M)))) := by
    have e1 : (l_c (M 99 0) day (M 91 l) M) 99 (0 + 1) = M 99 1 := by rw [l_c_o (c := 99) (by decide)]; rfl
    have e2 : (l_c (M 99 0) day (M 91 l) M) 91 l = M 91 l := by rw [l_c_91 (by (try simp only [l_c_n]); omega)]
    have e3 : (l_c (M 99 0) day (M 91 l) M) 3 0 = M 3 0 + 1 := by simp only [l_c_n]; try omega
    rw [e_div_s (by omega) (by omega) (by omega) (by rw [e1]; exact h1) (by omega), e1, e2]
  have s2 : F_X5_divide_s23 l day 4 (M 3 0) (0 + M 99 0 + M 99 1) (0 + 1 + 1) (l_c (M 99 1) day (M 91 l) (l_c (M 99 0) day (M 91 l) M)) = some (.inl (0 + M 99 0 + M 99 1 + M 99 2, 0 + 1 + 1 + 1, (l_c (M 99 2) day (M 91 l) (l_c (M 99 1) day (M 91 l) (l_c (M 99 0) day (M 91 l) M))))) := by
    have e1 : (l_c (M 99 1) day (M 91 l) (l_c (M 99 0) day (M 91 l) M)) 99 (0 + 1 + 1) = M 99 2 := by rw [l_c_o (c := 99) (by decide), l_c_o (c := 99) (by decide)]; rfl
    have e2 : (l_c (M 99 1) day (M 91 l) (l_c (M 99 0) day (M 91 l) M)) 91 l = M 91 l := by rw [l_c_91 (by (try simp only [l_c_n]); omega), l_c_91 (by (try simp only [l_c_n]); omega)]
    have e3 : (l_c (M 99 1) day (M 91 l) (l_c (M 99 0) day (M 91 l) M)) 3 0 = M 3 0 + 2 := by simp only [l_c_n]; try omega
    rw [e_div_s (by omega) (by omega) (by omega) (by rw [e1]; exact h2) (by omega), e1, e2]
  have s3 : F_X5_divide_s23 l day 4 (M 3 0) (0 + M 99 0 + M 99 1 + M 99 2) (0 + 1 + 1 + 1) (l_c (M 99 2) day (M 91 l) (l_c (M 99 1) day (M 91 l) (l_c (M 99 0) day (M 91 l) M))) = some (.inl (0 + M 99 0 + M 99 1 + M 99 2 + M 99 3, 0 + 1 + 1 + 1 + 1, (l_c (M 99 3) day (M 91 l) (l_c (M 99 2) day (M 91 l) (l_c (M 99 1) day (M 91 l) (l_c (M 99 0) day (M 91 l) M)))))) := by
    have e1 : (l_c (M 99 2) day (M 91 l) (l_c (M 99 1) day (M 91 l) (l_c (M 99 0) day (M 91 l) M))) 99 (0 + 1 + 1 + 1) = M 99 3 := by rw [l_c_o (c := 99) (by decide), l_c_o (c := 99) (by decide), l_c_o (c := 99) (by decide)]; rfl
    have e2 : (l_c (M 99 2) day (M 91 l) (l_c (M 99 1) day (M 91 l) (l_c (M 99 0) day (M 91 l) M))) 91 l = M 91 l := by rw [l_c_91 (by (try simp only [l_c_n]); omega), l_c_91 (by (try simp only [l_c_n]); omega), l_c_91 (by (try simp only [l_c_n]); omega)]
    have e3 : (l_c (M 99 2) day (M 91 l) (l_c (M 99 1) day (M 91 l) (l_c (M 99 0) day (M 91 l) M))) 3 0 = M 3 0 + 3 := by simp only [l_c_n]; try omega
    rw [e_div_s (by omega) (by omega) (by omega) (by rw [e1]; exact h3) (by omega), e1, e2]
  rw [b_loop_eq]
  dsimp only
  rw [s0]
  show b_bind (b_loop _ (0 + M 99 0, 0 + 1, (l_c (M 99 0) day (M 91 l) M))) _ = _
  rw [b_loop_eq]
  dsimp only
  rw [s1]
  show b_bind (b_loop _ (0 + M 99 0 + M 99 1, 0 + 1 + 1, (l_c (M 99 1) day (M 91 l) (l_c (M 99 0) day (M 91 l) M)))) _ = _
  rw [b_loop_eq]
  dsimp only
  rw [s2]
  show b_bind (b_loop _ (0 + M 99 0 + M 99 1 + M 99 2, 0 + 1 + 1 + 1, (l_c (M 99 2) day (M 91 l) (l_c (M 99 1) day (M 91 l) (l_c (M 99 0) day (M 91 l) M))))) _ = _
  rw [b_loop_eq]
  dsimp only
  rw [s3]
  show b_bind (b_loop _ (0 + M 99 0 + M 99 1 + M 99 2 + M 99 3, 0 + 1 + 1 + 1 + 1, (l_c (M 99 3) day (M 91 l) (l_c (M 99 2) day (M 91 l) (l_c (M 99 1) day (M 91 l) (l_c (M 99 0) day (M 91 l) M)))))) _ = _
  rw [b_loop_eq]
  dsimp only
  rw [show F_X5_divide_s23 l day 4 (M 3 0) (0 + M 99 0 + M 99 1 + M 99 2 + M 99 3) (0 + 1 + 1 + 1 + 1) (l_c (M 99 3) day (M 91 l) (l_c (M 99 2) day (M 91 l) (l_c (M 99 1) day (M 91 l) (l_c (M 99 0) day (M 91 l) M)))) = some (.inr (0 + M 99 0 + M 99 1 + M 99 2 + M 99 3, (l_c (M 99 3) day (M 91 l) (l_c (M 99 2) day (M 91 l) (l_c (M 99 1) day (M 91 l) (l_c (M 99 0) day (M 91 l) M)))))) by unfold F_X5_divide_s23; rw [if_pos (by omega)]]
  show F_X5_divide_b72 l day (M 3 0) (0 + M 99 0 + M 99 1 + M 99 2 + M 99 3) (l_c (M 99 3) day (M 91 l) (l_c (M 99 2) day (M 91 l) (l_c (M 99 1) day (M 91 l) (l_c (M 99 0) day (M 91 l) M)))) = _
  have e86 : (l_c (M 99 3) day (M 91 l) (l_c (M 99 2) day (M 91 l) (l_c (M 99 1) day (M 91 l) (l_c (M 99 0) day (M 91 l) M)))) 86 l = M 86 l := by rw [l_c_86 (by (try simp only [l_c_n]); omega), l_c_86 (by (try simp only [l_c_n]); omega), l_c_86 (by (try simp only [l_c_n]); omega), l_c_86 (by (try simp only [l_c_n]); omega)]
  unfold F_X5_divide_b72
  rw [b_g_s (by omega), b_let_s, b_upc (by decide), e86, b_g_s (by omega), b_let_s]
  rfl
theorem e_m2 {l day a b c d : Int} {N : bM} (hl : 0 ≤ l ∧ l < N 11 20) (hs : N 11 20 ≤ 60) (hd : 0 ≤ day ∧ day ≤ 9999) (hr : 1 ≤ N 169 l ∧ N 169 l ≤ 999999) (ha : b_ft a) (hb : b_ft b) : F_X12_split l day 2 a b c d N = if day < N 170 l then some (-4, N) else if N 171 l = -1 then (if N 11 20 + 2 ≤ 60 then some (N 11 20, l_ms day (N 174 l) [a, b] (b_up (b_up N 171 l day) 172 l (N 169 l - a - b - 0 - 0))) else some (-3, N)) else some (-4, N) := by
  unfold b_ft at ha hb
  unfold F_X12_split
  rw [e_X12_isLot (by omega), b_bind_s, if_neg (by rw [b_01_0]; omega), e_X12_isDay, b_bind_s, if_neg (by rw [b_01_0]; omega), e_X12_in, b_bind_s, if_neg (by rw [b_01_0]; omega), e_X12_isFeet, b_bind_s, if_neg (by rw [b_01_0]; omega), e_X12_isFeet, b_bind_s, if_neg (by rw [b_01_0]; omega), if_pos (by omega)]
  unfold F_X12_split_b53
  rw [if_pos (by omega)]
  unfold F_X12_split_b69
  rw [b_g_s (by omega)]
  by_cases q1 : day < N 170 l
  · rw [if_pos q1, if_pos q1]
  rw [if_neg q1, if_neg q1, b_g_s (by omega)]
  by_cases q2 : ¬ N 171 l = -1
  · rw [if_neg q2, if_neg q2]
  replace q2 := Decidable.not_not.mp q2
  rw [if_pos q2, if_pos q2, b_g_s (by omega)]
  by_cases q3 : ¬ N 11 20 + 2 ≤ 60
  · rw [if_neg q3, if_neg q3]
  replace q3 := Decidable.not_not.mp q3
  rw [if_pos q3, if_pos q3, b_g_s (by omega), b_let_s]
  simp (disch := decide) only [b_upc]
  rw [b_g_s (by omega), if_pos (by omega)]
  unfold F_X12_split_b147
  rw [b_g_s (by omega), if_pos (by omega)]
  unfold F_X12_split_b159
  rw [b_g_s (by omega), b_let_s]
  have g0 : (b_up (b_up N 171 l day) 172 l (N 169 l - a - b - 0 - 0)) 174 l = N 174 l := by rw [b_upc (by decide), b_upc (by decide)]
  have k0 : (b_up (b_up N 171 l day) 172 l (N 169 l - a - b - 0 - 0)) 11 20 = N 11 20 := by rw [b_upc (by decide), b_upc (by decide)]
  have g1 : (l_m a day (N 174 l) (b_up (b_up N 171 l day) 172 l (N 169 l - a - b - 0 - 0))) 174 l = N 174 l := by rw [l_m_174 (by rw [k0]; omega), g0]
  have k1 : (l_m a day (N 174 l) (b_up (b_up N 171 l day) 172 l (N 169 l - a - b - 0 - 0))) 11 20 = N 11 20 + 1 := by rw [l_m_n, k0]
  rw [b_g_s (by omega), g0, e_X12_add (by rw [k0]; omega), b_bind_s, b_two_s, b_g_s (by omega), g1, e_X12_add (by rw [k1]; omega), b_bind_s, b_two_s]
  rw [if_pos (by omega)]
  unfold F_X12_split_b208
  rw [if_pos (by omega)]
  rfl
theorem e_m3 {l day a b c d : Int} {N : bM} (hl : 0 ≤ l ∧ l < N 11 20) (hs : N 11 20 ≤ 60) (hd : 0 ≤ day ∧ day ≤ 9999) (hr : 1 ≤ N 169 l ∧ N 169 l ≤ 999999) (ha : b_ft a) (hb : b_ft b) (hc : b_ft c) : F_X12_split l day 3 a b c d N = if day < N 170 l then some (-4, N) else if N 171 l = -1 then (if N 11 20 + 3 ≤ 60 then some (N 11 20, l_ms day (N 174 l) [a, b, c] (b_up (b_up N 171 l day) 172 l (N 169 l - a - b - c - 0))) else some (-3, N)) else some (-4, N) := by
  unfold b_ft at ha hb hc
  unfold F_X12_split
  rw [e_X12_isLot (by omega), b_bind_s, if_neg (by rw [b_01_0]; omega), e_X12_isDay, b_bind_s, if_neg (by rw [b_01_0]; omega), e_X12_in, b_bind_s, if_neg (by rw [b_01_0]; omega), e_X12_isFeet, b_bind_s, if_neg (by rw [b_01_0]; omega), e_X12_isFeet, b_bind_s, if_neg (by rw [b_01_0]; omega), if_neg (by omega), e_X12_isFeet, b_bind_s, if_neg (by rw [b_01_0]; omega)]
  unfold F_X12_split_b53
  rw [if_pos (by omega)]
  unfold F_X12_split_b69
  rw [b_g_s (by omega)]
  by_cases q1 : day < N 170 l
  · rw [if_pos q1, if_pos q1]
  rw [if_neg q1, if_neg q1, b_g_s (by omega)]
  by_cases q2 : ¬ N 171 l = -1
  · rw [if_neg q2, if_neg q2]
  replace q2 := Decidable.not_not.mp q2
  rw [if_pos q2, if_pos q2, b_g_s (by omega)]
  by_cases q3 : ¬ N 11 20 + 3 ≤ 60
  · rw [if_neg q3, if_neg q3]
  replace q3 := Decidable.not_not.mp q3
  rw [if_pos q3, if_pos q3, b_g_s (by omega), b_let_s]
  simp (disch := decide) only [b_upc]
  rw [b_g_s (by omega), if_neg (by omega)]
  unfold F_X12_split_b147
  rw [b_g_s (by omega), if_pos (by omega)]
  unfold F_X12_split_b159
  rw [b_g_s (by omega), b_let_s]
  have g0 : (b_up (b_up N 171 l day) 172 l (N 169 l - a - b - c - 0)) 174 l = N 174 l := by rw [b_upc (by decide), b_upc (by decide)]
  have k0 : (b_up (b_up N 171 l day) 172 l (N 169 l - a - b - c - 0)) 11 20 = N 11 20 := by rw [b_upc (by decide), b_upc (by decide)]
  have g1 : (l_m a day (N 174 l) (b_up (b_up N 171 l day) 172 l (N 169 l - a - b - c - 0))) 174 l = N 174 l := by rw [l_m_174 (by rw [k0]; omega), g0]
  have k1 : (l_m a day (N 174 l) (b_up (b_up N 171 l day) 172 l (N 169 l - a - b - c - 0))) 11 20 = N 11 20 + 1 := by rw [l_m_n, k0]
  have g2 : (l_m b day (N 174 l) (l_m a day (N 174 l) (b_up (b_up N 171 l day) 172 l (N 169 l - a - b - c - 0)))) 174 l = N 174 l := by rw [l_m_174 (by rw [k1]; omega), g1]
  have k2 : (l_m b day (N 174 l) (l_m a day (N 174 l) (b_up (b_up N 171 l day) 172 l (N 169 l - a - b - c - 0)))) 11 20 = N 11 20 + 2 := by rw [l_m_n, k1]; omega
  rw [b_g_s (by omega), g0, e_X12_add (by rw [k0]; omega), b_bind_s, b_two_s, b_g_s (by omega), g1, e_X12_add (by rw [k1]; omega), b_bind_s, b_two_s]
  rw [if_neg (by omega), b_g_s (by omega), g2, e_X12_add (by rw [k2]; omega), b_bind_s, b_two_s]
  unfold F_X12_split_b208
  rw [if_pos (by omega)]
  rfl
theorem e_m4 {l day a b c d : Int} {N : bM} (hl : 0 ≤ l ∧ l < N 11 20) (hs : N 11 20 ≤ 60) (hd : 0 ≤ day ∧ day ≤ 9999) (hr : 1 ≤ N 169 l ∧ N 169 l ≤ 999999) (ha : b_ft a) (hb : b_ft b) (hc : b_ft c) (hd : b_ft d) : F_X12_split l day 4 a b c d N = if day < N 170 l then some (-4, N) else if N 171 l = -1 then (if N 11 20 + 4 ≤ 60 then some (N 11 20, l_ms day (N 174 l) [a, b, c, d] (b_up (b_up N 171 l day) 172 l (N 169 l - a - b - c - d))) else some (-3, N)) else some (-4, N) := by
  unfold b_ft at ha hb hc hd
  unfold F_X12_split
  rw [e_X12_isLot (by omega), b_bind_s, if_neg (by rw [b_01_0]; omega), e_X12_isDay, b_bind_s, if_neg (by rw [b_01_0]; omega), e_X12_in, b_bind_s, if_neg (by rw [b_01_0]; omega), e_X12_isFeet, b_bind_s, if_neg (by rw [b_01_0]; omega), e_X12_isFeet, b_bind_s, if_neg (by rw [b_01_0]; omega), if_neg (by omega), e_X12_isFeet, b_bind_s, if_neg (by rw [b_01_0]; omega)]
  unfold F_X12_split_b53
  rw [if_neg (by omega), e_X12_isFeet, b_bind_s, if_neg (by rw [b_01_0]; omega)]
  unfold F_X12_split_b69
  rw [b_g_s (by omega)]
  by_cases q1 : day < N 170 l
  · rw [if_pos q1, if_pos q1]
  rw [if_neg q1, if_neg q1, b_g_s (by omega)]
  by_cases q2 : ¬ N 171 l = -1
  · rw [if_neg q2, if_neg q2]
  replace q2 := Decidable.not_not.mp q2
  rw [if_pos q2, if_pos q2, b_g_s (by omega)]
  by_cases q3 : ¬ N 11 20 + 4 ≤ 60
  · rw [if_neg q3, if_neg q3]
  replace q3 := Decidable.not_not.mp q3
  rw [if_pos q3, if_pos q3, b_g_s (by omega), b_let_s]
  simp (disch := decide) only [b_upc]
  rw [b_g_s (by omega), if_neg (by omega)]
  unfold F_X12_split_b147
  rw [b_g_s (by omega), if_neg (by omega)]
  unfold F_X12_split_b159
  rw [b_g_s (by omega), b_let_s]
  have g0 : (b_up (b_up N 171 l day) 172 l (N 169 l - a - b - c - d)) 174 l = N 174 l := by rw [b_upc (by decide), b_upc (by decide)]
  have k0 : (b_up (b_up N 171 l day) 172 l (N 169 l - a - b - c - d)) 11 20 = N 11 20 := by rw [b_upc (by decide), b_upc (by decide)]
  have g1 : (l_m a day (N 174 l) (b_up (b_up N 171 l day) 172 l (N 169 l - a - b - c - d))) 174 l = N 174 l := by rw [l_m_174 (by rw [k0]; omega), g0]
  have k1 : (l_m a day (N 174 l) (b_up (b_up N 171 l day) 172 l (N 169 l - a - b - c - d))) 11 20 = N 11 20 + 1 := by rw [l_m_n, k0]
  have g2 : (l_m b day (N 174 l) (l_m a day (N 174 l) (b_up (b_up N 171 l day) 172 l (N 169 l - a - b - c - d)))) 174 l = N 174 l := by rw [l_m_174 (by rw [k1]; omega), g1]
  have k2 : (l_m b day (N 174 l) (l_m a day (N 174 l) (b_up (b_up N 171 l day) 172 l (N 169 l - a - b - c - d)))) 11 20 = N 11 20 + 2 := by rw [l_m_n, k1]; omega
  have g3 : (l_m c day (N 174 l) (l_m b day (N 174 l) (l_m a day (N 174 l) (b_up (b_up N 171 l day) 172 l (N 169 l - a - b - c - d))))) 174 l = N 174 l := by rw [l_m_174 (by rw [k2]; omega), g2]
  have k3 : (l_m c day (N 174 l) (l_m b day (N 174 l) (l_m a day (N 174 l) (b_up (b_up N 171 l day) 172 l (N 169 l - a - b - c - d))))) 11 20 = N 11 20 + 3 := by rw [l_m_n, k2]; omega
  rw [b_g_s (by omega), g0, e_X12_add (by rw [k0]; omega), b_bind_s, b_two_s, b_g_s (by omega), g1, e_X12_add (by rw [k1]; omega), b_bind_s, b_two_s]
  rw [if_neg (by omega), b_g_s (by omega), g2, e_X12_add (by rw [k2]; omega), b_bind_s, b_two_s]
  unfold F_X12_split_b208
  rw [if_neg (by omega), b_g_s (by omega), g3, e_X12_add (by rw [k3]; omega), b_bind_s, b_two_s]
  rfl
