theorem b_1p {P : Prop} [Decidable P] (h : ¬ P) : b_01 P = 0 := b_01_0.mpr h
theorem b_1n {P : Prop} [Decidable P] (h : ¬ ¬ P) : ¬ b_01 P = 0 := fun q => h (b_01_0.mp q)
theorem e_minv {l day n a b c d : Int} {N : bM} (hs : 0 ≤ N 11 20 ∧ N 11 20 ≤ 60) (h : ¬ ((0 ≤ l ∧ l < N 11 20) ∧ (0 ≤ day ∧ day ≤ 9999) ∧ (2 ≤ n ∧ n ≤ 4) ∧ b_ft a ∧ b_ft b ∧ (n ≤ 2 ∨ b_ft c) ∧ (n ≤ 3 ∨ b_ft d))) : F_X12_split l day n a b c d N = some (-2, N) := by
  unfold F_X12_split
  rw [e_X12_isLot hs, b_bind_s]
  by_cases c1 : ¬ (0 ≤ l ∧ l < N 11 20)
  · rw [if_pos (b_1p c1)]
  rw [if_neg (b_1n c1), e_X12_isDay, b_bind_s]
  by_cases c2 : ¬ (0 ≤ day ∧ day ≤ 9999)
  · rw [if_pos (b_1p c2)]
  rw [if_neg (b_1n c2), e_X12_in, b_bind_s]
  by_cases c3 : ¬ (2 ≤ n ∧ n ≤ 4)
  · rw [if_pos (b_1p c3)]
  rw [if_neg (b_1n c3), e_X12_isFeet, b_bind_s]
  by_cases c4 : ¬ b_ft a
  · rw [if_pos (b_1p c4)]
  rw [if_neg (b_1n c4), e_X12_isFeet, b_bind_s]
  by_cases c5 : ¬ b_ft b
  · rw [if_pos (b_1p c5)]
  rw [if_neg (b_1n c5)]
  by_cases n2 : n ≤ 2
  · exact absurd ⟨Decidable.not_not.mp c1, Decidable.not_not.mp c2, Decidable.not_not.mp c3, Decidable.not_not.mp c4, Decidable.not_not.mp c5, Or.inl n2, Or.inl (by omega)⟩ h
  rw [if_neg n2, e_X12_isFeet, b_bind_s]
  by_cases c6 : ¬ b_ft c
  · rw [if_pos (b_1p c6)]
  rw [if_neg (b_1n c6)]
  by_cases n3 : n ≤ 3
  · exact absurd ⟨Decidable.not_not.mp c1, Decidable.not_not.mp c2, Decidable.not_not.mp c3, Decidable.not_not.mp c4, Decidable.not_not.mp c5, Or.inr (Decidable.not_not.mp c6), Or.inl n3⟩ h
  unfold F_X12_split_b53
  rw [if_neg n3, e_X12_isFeet, b_bind_s]
  by_cases c7 : ¬ b_ft d
  · rw [if_pos (b_1p c7)]
  exact absurd ⟨Decidable.not_not.mp c1, Decidable.not_not.mp c2, Decidable.not_not.mp c3, Decidable.not_not.mp c4, Decidable.not_not.mp c5, Or.inr (Decidable.not_not.mp c6), Or.inr (Decidable.not_not.mp c7)⟩ h
def l_4 (a b c d : Int) (M : bM) : bM := b_up (b_up (b_up (b_up M 99 0 a) 99 1 b) 99 2 c) 99 3 d
theorem e_X5_four {a b c d : Int} {M : bM} : F_X5_four a b c d M = some (l_4 a b c d M) := rfl
theorem l_4_o {a b c d : Int} {M : bM} {z : Nat} (h : z ≠ 99) : l_4 a b c d M z = M z := by unfold l_4; rw [b_upF h, b_upF h, b_upF h, b_upF h]
theorem l_4_0 {a b c d : Int} {M : bM} : l_4 a b c d M 99 0 = a ∧ l_4 a b c d M 99 1 = b ∧ l_4 a b c d M 99 2 = c ∧ l_4 a b c d M 99 3 = d := by
  unfold l_4
  refine ⟨?_, ?_, ?_, ?_⟩ <;> simp (disch := decide) only [b_upi, b_ups]
/-- what the class answers, what it leaves: refused, or lots added, the old one ended -/
theorem e_csplit {l day n a b c d : Int} {M : bM} (hs : 0 ≤ M 3 0 ∧ M 3 0 ≤ 60) (hr : 0 ≤ l ∧ l < M 3 0 → 1 ≤ M 86 l ∧ M 86 l ≤ 999999) :
    (¬ ((0 ≤ l ∧ l < M 3 0) ∧ (0 ≤ day ∧ day ≤ 9999) ∧ (2 ≤ n ∧ n ≤ 4) ∧ b_ft a ∧ b_ft b ∧ (n ≤ 2 ∨ b_ft c) ∧ (n ≤ 3 ∨ b_ft d)) ∧ ∃ M2, F_X11_split l day n a b c d M = some (-2, M2) ∧ (M2 = M ∨ M2 = l_4 a b c d M)) ∨
    (((0 ≤ l ∧ l < M 3 0) ∧ (0 ≤ day ∧ day ≤ 9999) ∧ (2 ≤ n ∧ n ≤ 4) ∧ b_ft a ∧ b_ft b ∧ (n ≤ 2 ∨ b_ft c) ∧ (n ≤ 3 ∨ b_ft d)) ∧ ((¬ (M 88 l = -1 ∧ M 87 l ≤ day) ∧ F_X11_split l day n a b c d M = some (-4, l_4 a b c d M)) ∨
      ((M 88 l = -1 ∧ M 87 l ≤ day) ∧ ((60 < M 3 0 + n ∧ F_X11_split l day n a b c d M = some (-3, l_4 a b c d M)) ∨
        (M 3 0 + n ≤ 60 ∧ F_X11_split l day n a b c d M = F_X5_divide l day n (b_up (l_4 a b c d M) 6 5 0)))))) := by
  have e3 : l_4 a b c d M 3 = M 3 := l_4_o (by decide)
  have e87 : l_4 a b c d M 87 = M 87 := l_4_o (by decide)
  have e88 : l_4 a b c d M 88 = M 88 := l_4_o (by decide)
  obtain ⟨g0, g1, g2, g3⟩ := l_4_0 (a := a) (b := b) (c := c) (d := d) (M := M)
  unfold F_X11_split
  rw [e_X5_has, b_bind_s]
  by_cases c1 : ¬ (0 ≤ l ∧ l < M 3 0)
  · rw [if_pos (b_1p c1)]; exact Or.inl ⟨fun h => c1 h.1, _, rfl, Or.inl rfl⟩
  rw [if_neg (b_1n c1), e_X11_isDay, b_bind_s]
  by_cases c2 : ¬ (0 ≤ day ∧ day ≤ 9999)
  · rw [if_pos (b_1p c2)]; exact Or.inl ⟨fun h => c2 h.2.1, _, rfl, Or.inl rfl⟩
  rw [if_neg (b_1n c2)]
  by_cases c3 : n < 2
  · rw [if_pos c3]; exact Or.inl ⟨fun h => by omega, _, rfl, Or.inl rfl⟩
  rw [if_neg c3]
  by_cases c4 : ¬ n ≤ 4
  · rw [if_neg c4]; exact Or.inl ⟨fun h => by omega, _, rfl, Or.inl rfl⟩
  rw [if_pos (Decidable.not_not.mp c4), e_X5_four, b_bind_s, e_X5_fourAreFeet (by omega), b_bind_s, g0, g1, g2, g3]
  by_cases c5 : ¬ (b_ft a ∧ b_ft b ∧ (n ≤ 2 ∨ b_ft c) ∧ (n ≤ 3 ∨ b_ft d))
  · rw [if_pos (b_1p c5)]; exact Or.inl ⟨fun h => c5 h.2.2.2, _, rfl, Or.inr rfl⟩
  rw [if_neg (b_1n c5), e_X5_mayEnd (by rw [e3]; omega), b_bind_s, e3, e87, e88]
  refine Or.inr ⟨⟨Decidable.not_not.mp c1, Decidable.not_not.mp c2, ⟨by omega, by omega⟩, Decidable.not_not.mp c5⟩, ?_⟩
  by_cases c6 : ¬ (M 88 l = -1 ∧ M 87 l ≤ day)
  · rw [if_pos (b_1p (fun h => c6 h.2))]; exact Or.inl ⟨c6, rfl⟩
  rw [if_neg (b_1n (fun h => h ⟨Decidable.not_not.mp c1, Decidable.not_not.mp c6⟩)), e_X5_room (by rw [e3]; omega), b_bind_s, e3]
  refine Or.inr ⟨Decidable.not_not.mp c6, ?_⟩
  by_cases c7 : ¬ n ≤ 60 - M 3 0
  · rw [if_neg c7]; exact Or.inl ⟨by omega, rfl⟩
  rw [if_pos (Decidable.not_not.mp c7)]
  refine Or.inr ⟨by omega, ?_⟩
  show b_bind (F_X5_divide l day n (b_up (l_4 a b c d M) 6 5 0)) _ = _
  cases F_X5_divide l day n (b_up (l_4 a b c d M) 6 5 0) with
  | none => rfl
  | some t => rfl
