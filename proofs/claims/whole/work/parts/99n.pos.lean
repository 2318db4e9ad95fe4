theorem x_fin_pos {M : bM} {d b w v p q : Int} (h : x_fin M d b w v p q) : v = -1 ∨ 0 < p := by
  obtain ⟨mx, m0, _, _, h⟩ := h
  rcases h with ⟨_, h, _⟩ | ⟨_, _, h, _⟩ | ⟨h, t, _, _, _, e, _⟩
  · exact Or.inl h
  · exact Or.inl h
  · exact Or.inr (by rw [e]; exact h.1)
/-- a LINK that has points has all that it tells -/
theorem g_p_pos {M : bM} {d b : Int} (hG : G_all M d) (hb : 0 ≤ b ∧ b < M 6 0) : 0 < M 126 (10 * b + 8) ↔ (M 126 (10 * b) ≠ -1 ∧ M 126 (10 * b + 1) ≠ -1 ∧ M 126 (10 * b + 2) ≠ -1) := by
  obtain ⟨v0, p0, q0, v1, p1, q1, v2, p2, q2, f0, f1, f2, e0, e1, e2, _, _, _, _, _, e8, _⟩ := hG.2.2.2.2.2 b hb.1 hb.2
  have a0 := x_fin_pos f0
  have a1 := x_fin_pos f1
  have a2 := x_fin_pos f2
  have c0 := x_fin_p f0
  have c1 := x_fin_p f1
  have c2 := x_fin_p f2
  rw [e0, e1, e2, e8]
  clear f0 f1 f2 hG
  omega
