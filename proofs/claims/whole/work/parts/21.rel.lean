theorem b_upF {M : bM} {c c2 : Nat} {i x : Int} (h : c2 ≠ c) : b_up M c i x c2 = M c2 := funext fun _ => b_upc h
theorem b_upE {M M2 : bM} {c c2 : Nat} {i x : Int} (h : M c = M2 c2) : b_up M c i x c = b_up M2 c2 i x c2 := by
  funext j
  by_cases q : j = i
  · subst q; rw [b_ups, b_ups]
  · rw [b_upi q, b_upi q, h]
theorem b_upJ {M : bM} {c : Nat} {i j x : Int} : b_up M c i x c j = if j = i then x else M c j := by
  by_cases q : j = i
  · subst q; rw [b_ups, if_pos rfl]
  · rw [b_upi q, if_neg q]
def S_day : bW := [(0, some 10), (11, some 11)]
def R_day (M : bM) : Prop := M 11 11 = M 0 10 ∧ 0 ≤ M 0 10 ∧ M 0 10 ≤ 9999
theorem R_day_k {M M2 : bM} (h : ∀ c i, b_ins S_day c i = true → M2 c i = M c i) (hR : R_day M) : R_day M2 := by
  have h0_10 : M2 0 10 = M 0 10 := h 0 10 rfl
  have h11_11 : M2 11 11 = M 11 11 := h 11 11 rfl
  unfold R_day at hR ⊢
  simp only [h0_10, h11_11]
  exact hR
def S_tape : bW := [(1, some 1), (11, some 1), (72, none), (162, none)]
def R_tape (M : bM) : Prop := M 11 1 = M 1 1 ∧ 0 ≤ M 1 1 ∧ M 1 1 ≤ 1000 ∧ M 162 = M 72 ∧ ∀ i, -128 ≤ M 72 i ∧ M 72 i < 128
theorem R_tape_k {M M2 : bM} (h : ∀ c i, b_ins S_tape c i = true → M2 c i = M c i) (hR : R_tape M) : R_tape M2 := by
  have h1_1 : M2 1 1 = M 1 1 := h 1 1 rfl
  have h11_1 : M2 11 1 = M 11 1 := h 11 1 rfl
  have h72 : M2 72 = M 72 := funext fun i => h 72 i rfl
  have h162 : M2 162 = M 162 := funext fun i => h 162 i rfl
  unfold R_tape at hR ⊢
  simp only [h1_1, h11_1, h72, h162]
  exact hR
def S_ppl : bW := [(2, some 0), (2, some 1), (11, some 12), (11, some 13), (76, none), (77, none), (78, none), (79, none), (80, none), (163, none), (164, none), (165, none), (166, none), (167, none)]
def R_ppl (M : bM) : Prop := (M 11 12 = M 2 0 ∧ 0 ≤ M 2 0 ∧ M 2 0 ≤ 80 ∧ M 11 13 = M 2 1 ∧ 0 ≤ M 2 1 ∧ M 2 1 ≤ 400) ∧ (M 163 = M 76 ∧ M 164 = M 77 ∧ M 165 = M 78 ∧ M 166 = M 79 ∧ M 167 = M 80) ∧ (∀ p, 0 ≤ M 76 p ∧ M 76 p ≤ 9999) ∧ ∀ t, 0 ≤ t → t < M 2 1 → (0 ≤ M 77 t ∧ M 77 t ≤ 3) ∧ (0 ≤ M 78 t ∧ M 78 t < M 2 0) ∧ (M 77 t ≠ 0 → 0 ≤ M 79 t ∧ M 79 t < M 2 0) ∧ (M 77 t = 0 → 0 ≤ M 79 t ∧ M 79 t ≤ 9999) ∧ (0 ≤ M 80 t ∧ M 80 t ≤ 9999)
theorem R_ppl_k {M M2 : bM} (h : ∀ c i, b_ins S_ppl c i = true → M2 c i = M c i) (hR : R_ppl M) : R_ppl M2 := by
  have h2_0 : M2 2 0 = M 2 0 := h 2 0 rfl
  have h2_1 : M2 2 1 = M 2 1 := h 2 1 rfl
  have h11_12 : M2 11 12 = M 11 12 := h 11 12 rfl
  have h11_13 : M2 11 13 = M 11 13 := h 11 13 rfl
  have h76 : M2 76 = M 76 := funext fun i => h 76 i rfl
  have h77 : M2 77 = M 77 := funext fun i => h 77 i rfl
  have h78 : M2 78 = M 78 := funext fun i => h 78 i rfl
  have h79 : M2 79 = M 79 := funext fun i => h 79 i rfl
  have h80 : M2 80 = M 80 := funext fun i => h 80 i rfl
  have h163 : M2 163 = M 163 := funext fun i => h 163 i rfl
  have h164 : M2 164 = M 164 := funext fun i => h 164 i rfl
  have h165 : M2 165 = M 165 := funext fun i => h 165 i rfl
  have h166 : M2 166 = M 166 := funext fun i => h 166 i rfl
  have h167 : M2 167 = M 167 := funext fun i => h 167 i rfl
  unfold R_ppl at hR ⊢
  simp only [h2_0, h2_1, h11_12, h11_13, h76, h77, h78, h79, h80, h163, h164, h165, h166, h167]
  exact hR
