/-- worth, GAPS and weakest LINK of CLAIM c on the day -/
def Wn (M : bM) (d c x g w : Int) : Prop := ∃ a F, Sr M d (M 148 c) (M 147 c) a F ∧ x = Wo M d (M 148 c) (M 147 c) a F ∧ g = Wg a F ∧ w = Ww a F
theorem Wn_u {M : bM} {d c x g w x2 g2 w2 : Int} (hl : M 11 20 = M 3 0) (h : Wn M d c x g w) (h2 : Wn M d c x2 g2 w2) : x = x2 ∧ g = g2 ∧ w = w2 := by
  obtain ⟨a, F, s, e1, e2, e3⟩ := h
  obtain ⟨a', F', s', e1', e2', e3'⟩ := h2
  have u := Sr_u hl s s'
  have ea := u.1
  subst ea
  by_cases q : a = -1
  · rw [e1, e1', e2, e2', e3, e3']
    refine ⟨?_, ?_, ?_⟩
    · rw [Wo_3 (fun z => z.1 q) (fun z => z.1 q), Wo_3 (fun z => z.1 q) (fun z => z.1 q)]
    · unfold Wg; rw [if_pos q, if_pos q]
    · unfold Ww; rw [if_pos q, if_pos q]
  · have v := u.2 q
    have f0 := v.2.2.1
    have f1 := v.2.2.2.1
    rw [e1, e1', e2, e2', e3, e3']
    unfold Wo Wg Ww
    rw [f0, f1]
    exact ⟨rfl, rfl, rfl⟩
theorem Wn_r {M : bM} {d c x g w : Int} (h : Wn M d c x g w) : x = 1 ∨ x = 2 ∨ x = 3 := by
  obtain ⟨a, F, s, e1, _⟩ := h
  rw [e1]
  unfold Wo
  split
  · exact Or.inl rfl
  · split
    · exact Or.inr (Or.inl rfl)
    · split
      · exact Or.inr (Or.inr rfl)
      · exact Or.inr (Or.inl rfl)
theorem Wn_c {M N : bM} (h : GS M N) {d c x g w : Int} (h1 : N 148 c = M 148 c) (h2 : N 147 c = M 147 c) (hw : Wn N d c x g w) : Wn M d c x g w := by
  obtain ⟨a, F, s, e1, e2, e3⟩ := hw
  refine ⟨a, F, by rw [h1, h2] at s; exact gs_Sr h s, ?_, e2, e3⟩
  rw [e1, h1, h2]
  unfold Wo
  rw [sp_rule (GS_ss h), x_hd_c (GS_ss h) (h 174 _ rfl)]
theorem wp_ex {α : Type} {f : Option α} {K : α → Prop} (h : b_wp f K) : ∃ a, K a := by
  cases f with
  | none => exact absurd h (fun z => z)
  | some a => exact ⟨a, h⟩
theorem Wn_e {M : bM} {d c : Int} (hC : C_all M) (hG : G_all M d) (hl : 0 ≤ M 148 c ∧ M 148 c < M 3 0) (hp : 0 ≤ M 147 c ∧ M 147 c < M 2 0) : ∃ a F, Sr M d (M 148 c) (M 147 c) a F := by
  obtain ⟨o, _, h⟩ := wp_ex (t_search hG hC.2.2.2 hl hp)
  exact ⟨_, _, h⟩
/-- CLAIM c is heard on the day about LOT l -/
abbrev Hd (M : bM) (d l c : Int) : Prop := M 148 c = l ∧ M 150 c = 0 ∧ x_rule M d 4 ≤ d - M 149 c
/-- after k CLAIMS: heard, winner, its worth -/
def Hb (M : bM) (d l : Int) : Nat → Int → Int → Int → Prop
  | 0, n, b, v => n = 0 ∧ b = -1 ∧ v = 3
  | k + 1, n, b, v => (¬ Hd M d l k ∧ Hb M d l k n b v) ∨ (Hd M d l k ∧ ∃ n0 b0 v0 x g w, Hb M d l k n0 b0 v0 ∧ Wn M d k x g w ∧ n = n0 + 1 ∧ (((x ≠ 3 ∧ (b0 = -1 ∨ x < v0 ∨ (x = v0 ∧ ∃ y g0 w0, Wn M d b0 y g0 w0 ∧ (g < g0 ∨ (g = g0 ∧ w0 < w))))) ∧ b = k ∧ v = x) ∨ (¬ (x ≠ 3 ∧ (b0 = -1 ∨ x < v0 ∨ (x = v0 ∧ ∃ y g0 w0, Wn M d b0 y g0 w0 ∧ (g < g0 ∨ (g = g0 ∧ w0 < w))))) ∧ b = b0 ∧ v = v0)))
theorem Hb_u {M : bM} {d l : Int} (hl : M 11 20 = M 3 0) : ∀ (k : Nat) (n b v n2 b2 v2 : Int), Hb M d l k n b v → Hb M d l k n2 b2 v2 → n = n2 ∧ b = b2 ∧ v = v2 := by
  intro k
  induction k with
  | zero =>
    intro n b v n2 b2 v2 ⟨a1, a2, a3⟩ ⟨c1, c2, c3⟩
    rw [a1, a2, a3, c1, c2, c3]
    exact ⟨rfl, rfl, rfl⟩
  | succ k ih =>
    intro n b v n2 b2 v2 h h2
    rcases h with ⟨a1, a2⟩ | ⟨a1, n0, b0, v0, x, g, w, a2, a3, a4, a5⟩
    · rcases h2 with ⟨c1, c2⟩ | ⟨c1, _⟩
      · exact ih _ _ _ _ _ _ a2 c2
      · exact absurd c1 a1
    · rcases h2 with ⟨c1, _⟩ | ⟨c1, m0, c0, u0, x', g', w', c2, c3, c4, c5⟩
      · exact absurd a1 c1
      · obtain ⟨e1, e2, e3⟩ := ih _ _ _ _ _ _ a2 c2
        subst e1 e2 e3
        obtain ⟨f1, f2, f3⟩ := Wn_u hl a3 c3
        subst f1 f2 f3
        rcases a5 with ⟨p1, p2, p3⟩ | ⟨p1, p2, p3⟩
        · rcases c5 with ⟨q1, q2, q3⟩ | ⟨q1, q2, q3⟩
          · rw [a4, c4, p2, p3, q2, q3]; exact ⟨rfl, rfl, rfl⟩
          · exact absurd p1 q1
        · rcases c5 with ⟨q1, q2, q3⟩ | ⟨q1, q2, q3⟩
          · exact absurd q1 p1
          · rw [a4, c4, p2, p3, q2, q3]; exact ⟨rfl, rfl, rfl⟩
theorem Hb_r {M : bM} {d l : Int} : ∀ (k : Nat) (n b v : Int), Hb M d l k n b v → (0 ≤ n ∧ n ≤ k) ∧ ((b = -1 ∧ v = 3) ∨ ((0 ≤ b ∧ b < k) ∧ Hd M d l b ∧ (v = 1 ∨ v = 2))) := by
  intro k
  induction k with
  | zero =>
    intro n b v ⟨a1, a2, a3⟩
    exact ⟨by omega, Or.inl ⟨a2, a3⟩⟩
  | succ k ih =>
    intro n b v h
    rcases h with ⟨a1, a2⟩ | ⟨a1, n0, b0, v0, x, g, w, a2, a3, a4, a5⟩
    · obtain ⟨i1, i2⟩ := ih _ _ _ a2
      refine ⟨by omega, ?_⟩
      rcases i2 with i2 | ⟨i2, i3, i4⟩
      · exact Or.inl i2
      · exact Or.inr ⟨by omega, i3, i4⟩
    · obtain ⟨i1, i2⟩ := ih _ _ _ a2
      refine ⟨by omega, ?_⟩
      rcases a5 with ⟨p1, p2, p3⟩ | ⟨p1, p2, p3⟩
      · refine Or.inr ⟨by omega, by rw [p2]; exact a1, ?_⟩
        have := Wn_r a3
        have := p1.1
        omega
      · rcases i2 with i2 | ⟨i2, i3, i4⟩
        · exact Or.inl ⟨by rw [p2]; exact i2.1, by rw [p3]; exact i2.2⟩
        · exact Or.inr ⟨by omega, by rw [p2]; exact i3, by omega⟩
