def l_c (x d g : Int) (M : bM) : bM := b_up (b_up (b_up (b_up (b_up (b_up M 86 (M 3 0) x) 87 (M 3 0) d) 88 (M 3 0) (-1)) 91 (M 3 0) (j_or g (j_shl 1 (M 3 0)))) 92 (M 3 0) (-1)) 3 0 (M 3 0 + 1)
def l_m (x d g : Int) (N : bM) : bM := b_up (b_up (b_up (b_up N 169 (N 11 20) x) 170 (N 11 20) d) 174 (N 11 20) (j_or g (j_shl 1 (N 11 20)))) 11 20 (N 11 20 + 1)
theorem e_X5_add {x d g : Int} {M : bM} (h : 0 ≤ M 3 0 ∧ M 3 0 < 60) : F_X5_add x d g M = some (M 3 0, l_c x d g M) := by
  unfold F_X5_add
  rw [if_pos h.2, b_g_s h, b_let_s]
  simp (disch := decide) only [b_upF, b_upc]
  rw [b_g_s h, b_let_s]
  simp (disch := decide) only [b_upF, b_upc]
  rw [b_g_s h, b_let_s]
  simp (disch := decide) only [b_upF, b_upc]
  rw [b_g_s h, b_let_s]
  simp (disch := decide) only [b_upF, b_upc]
  rw [b_g_s h, b_let_s]
  simp (disch := decide) only [b_upF, b_upc]
  rw [b_g_s (by omega), b_let_s, b_ups, b_g_s (by omega), show M 3 0 + 1 - 1 = M 3 0 by omega]
  rfl
theorem e_X12_add {x d g : Int} {M : bM} (h : 0 ≤ M 11 20 ∧ M 11 20 < 60) : F_X12_add x d g M = some (M 11 20, l_m x d g M) := by
  unfold F_X12_add
  rw [b_g_s h, b_let_s]
  simp (disch := decide) only [b_upF, b_upc]
  rw [b_g_s h, b_let_s]
  simp (disch := decide) only [b_upF, b_upc]
  rw [b_g_s h, b_let_s]
  simp (disch := decide) only [b_upF, b_upc]
  rw [b_g_s (by omega), b_let_s, b_ups, b_g_s (by omega), show M 11 20 + 1 - 1 = M 11 20 by omega]
  rfl
/-- the lots of two memories, one on the class's side, one on the reference's -/
def R_lots2 (M N : bM) : Prop := (N 11 20 = M 3 0 ∧ 0 ≤ M 3 0 ∧ M 3 0 ≤ 60) ∧ (N 169 = M 86 ∧ N 170 = M 87 ∧ N 172 = M 89 ∧ N 173 = M 90 ∧ N 174 = M 91 ∧ N 218 = M 93) ∧ (∀ i, 0 ≤ i → i < M 3 0 → (N 171 i = M 88 i ∧ N 217 i = M 92 i) ∧ (1 ≤ M 86 i ∧ M 86 i ≤ 999999) ∧ (0 ≤ M 87 i ∧ M 87 i ≤ 9999) ∧ (-1 ≤ M 88 i ∧ M 88 i ≤ 9999) ∧ (M 88 i = -1 ∨ M 87 i ≤ M 88 i)) ∧ ∀ i, M 3 0 ≤ i → i < 60 → N 171 i = -1 ∧ N 217 i = -1
theorem R_lots_2 {M : bM} : R_lots M ↔ R_lots2 M M := Iff.rfl
theorem R_lots2_c {M N M2 N2 : bM} (h3 : M2 3 0 = M 3 0) (hc : ∀ c ∈ [86, 87, 88, 89, 90, 91, 92, 93], M2 c = M c) (h11 : N2 11 20 = N 11 20) (hn : ∀ c ∈ [169, 170, 171, 172, 173, 174, 217, 218], N2 c = N c) (h : R_lots2 M N) : R_lots2 M2 N2 := by
  unfold R_lots2 at h ⊢
  rw [h3, h11, hc 86 (by decide), hc 87 (by decide), hc 88 (by decide), hc 89 (by decide), hc 90 (by decide), hc 91 (by decide), hc 92 (by decide), hc 93 (by decide), hn 169 (by decide), hn 170 (by decide), hn 171 (by decide), hn 172 (by decide), hn 173 (by decide), hn 174 (by decide), hn 217 (by decide), hn 218 (by decide)]
  exact h
theorem R_lots2_add {M N : bM} {x d g : Int} (h : R_lots2 M N) (hx : 1 ≤ x ∧ x ≤ 999999) (hd : 0 ≤ d ∧ d ≤ 9999) (hn : M 3 0 < 60) : R_lots2 (l_c x d g M) (l_m x d g N) := by
  unfold R_lots2 at h
  obtain ⟨⟨l1, l2, l3⟩, ⟨f1, f2, f3, f4, f5, f6⟩, hl, hm⟩ := h
  unfold R_lots2 l_c l_m
  simp (disch := decide) only [b_upF, b_ups]
  refine ⟨⟨by omega, by omega, by omega⟩, ⟨?_, ?_, f3, f4, ?_, f6⟩, ?_, ?_⟩
  · rw [l1]; exact b_upE f1
  · rw [l1]; exact b_upE (by simp (disch := decide) only [b_upF]; exact f2)
  · rw [l1]; exact b_upE (by simp (disch := decide) only [b_upF]; exact f5)
  · intro i q1 q2
    simp (disch := decide) only [b_upJ, b_upF]
    by_cases qq : i = M 3 0
    · have := hm i (by omega) (by omega)
      simp only [if_pos qq, true_or, or_true, true_and, and_true]
      omega
    · have := hl i q1 (by omega)
      simp only [if_neg qq]
      omega
  · intro i q1 q2
    exact hm i (by omega) q2
theorem R_lots2_end {M N : bM} {l d : Int} (h : R_lots2 M N) (hl0 : 0 ≤ l ∧ l < M 3 0) (hd : M 87 l ≤ d ∧ 0 ≤ d ∧ d ≤ 9999) : R_lots2 (b_up M 88 l d) (b_up N 171 l d) := by
  unfold R_lots2 at h
  obtain ⟨⟨l1, l2, l3⟩, ⟨f1, f2, f3, f4, f5, f6⟩, hl, hm⟩ := h
  unfold R_lots2
  simp (disch := decide) only [b_upF]
  refine ⟨⟨l1, l2, l3⟩, ⟨f1, f2, f3, f4, f5, f6⟩, ?_, ?_⟩
  · intro i q1 q2
    simp (disch := decide) only [b_upJ]
    have := hl i q1 q2
    by_cases qq : i = l
    · subst qq
      rw [if_pos rfl, if_pos rfl]
      omega
    · rw [if_neg qq, if_neg qq]
      omega
  · intro i q1 q2
    rw [b_upi (by omega)]
    exact hm i q1 q2
theorem R_lots2_lack {M N : bM} {l x : Int} (h : R_lots2 M N) : R_lots2 (b_up M 89 l x) (b_up N 172 l x) := by
  unfold R_lots2 at h ⊢
  obtain ⟨l1, ⟨f1, f2, f3, f4, f5, f6⟩, hl, hm⟩ := h
  simp (disch := decide) only [b_upF]
  exact ⟨l1, ⟨f1, f2, b_upE f3, f4, f5, f6⟩, hl, hm⟩
theorem b_up_comm {M : bM} {c c2 : Nat} {i j x y : Int} (h : c ≠ c2 ∨ i ≠ j) : b_up (b_up M c i x) c2 j y = b_up (b_up M c2 j y) c i x := by
  funext z w
  unfold b_up
  by_cases q1 : z = c2 ∧ w = j
  · rw [if_pos q1]
    by_cases q2 : z = c ∧ w = i
    · exact absurd q2 (by omega)
    · rw [if_neg q2, if_pos q1]
  · rw [if_neg q1]
    by_cases q2 : z = c ∧ w = i
    · rw [if_pos q2, if_pos q2]
    · rw [if_neg q2, if_neg q2, if_neg q1]
/-- adding a lot and ending another may change places -/
theorem l_c_end {M : bM} {x d g l e : Int} (h : l ≠ M 3 0) : b_up (l_c x d g M) 88 l e = l_c x d g (b_up M 88 l e) := by
  unfold l_c
  rw [b_upc (by decide)]
  rw [b_up_comm (c := 3) (c2 := 88) (j := l) (y := e) (Or.inl (by decide)), b_up_comm (c := 92) (c2 := 88) (j := l) (y := e) (Or.inl (by decide)), b_up_comm (c := 91) (c2 := 88) (j := l) (y := e) (Or.inl (by decide)), b_up_comm (c := 88) (c2 := 88) (j := l) (y := e) (Or.inr (fun q => h q.symm)), b_up_comm (c := 87) (c2 := 88) (j := l) (y := e) (Or.inl (by decide)), b_up_comm (c := 86) (c2 := 88) (j := l) (y := e) (Or.inl (by decide))]
theorem l_c_lack {M : bM} {x d g l e : Int} : b_up (l_c x d g M) 89 l e = l_c x d g (b_up M 89 l e) := by
  unfold l_c
  rw [b_upc (by decide)]
  rw [b_up_comm (c := 3) (c2 := 89) (j := l) (y := e) (Or.inl (by decide)), b_up_comm (c := 92) (c2 := 89) (j := l) (y := e) (Or.inl (by decide)), b_up_comm (c := 91) (c2 := 89) (j := l) (y := e) (Or.inl (by decide)), b_up_comm (c := 88) (c2 := 89) (j := l) (y := e) (Or.inl (by decide)), b_up_comm (c := 87) (c2 := 89) (j := l) (y := e) (Or.inl (by decide)), b_up_comm (c := 86) (c2 := 89) (j := l) (y := e) (Or.inl (by decide))]
theorem l_c_n {x d g : Int} {M : bM} : l_c x d g M 3 0 = M 3 0 + 1 := by unfold l_c; exact b_ups
theorem l_c_o {x d g : Int} {M : bM} {c : Nat} (h : c ∉ [3, 86, 87, 88, 91, 92]) : l_c x d g M c = M c := by
  simp only [List.mem_cons, List.not_mem_nil, or_false, not_or] at h
  unfold l_c
  rw [b_upF h.1, b_upF h.2.2.2.2.2, b_upF h.2.2.2.2.1, b_upF h.2.2.2.1, b_upF h.2.2.1, b_upF h.2.1]
theorem l_c_86 {x d g i : Int} {M : bM} (h : i ≠ M 3 0) : l_c x d g M 86 i = M 86 i := by unfold l_c; simp (disch := decide) only [b_upF]; exact b_upi h
theorem l_c_91 {x d g i : Int} {M : bM} (h : i ≠ M 3 0) : l_c x d g M 91 i = M 91 i := by unfold l_c; simp (disch := decide) only [b_upF]; rw [b_upi h]; simp (disch := decide) only [b_upF]
theorem l_m_n {x d g : Int} {M : bM} : l_m x d g M 11 20 = M 11 20 + 1 := by unfold l_m; exact b_ups
theorem l_m_174 {x d g i : Int} {M : bM} (h : i ≠ M 11 20) : l_m x d g M 174 i = M 174 i := by unfold l_m; simp (disch := decide) only [b_upF]; rw [b_upi h]; simp (disch := decide) only [b_upF]
