theorem b_loop_fun {σ ρ : Type} {f : σ → Option (σ ⊕ ρ)} {I : σ → Prop} {r : σ → ρ} (m : σ → Nat) (hs : ∀ s, I s → f s = some (.inr (r s)) ∨ ∃ s2, f s = some (.inl s2) ∧ I s2 ∧ m s2 < m s ∧ r s2 = r s) (s : σ) (h : I s) : b_loop f s = some (r s) := by
  generalize hn : m s = n
  induction n using Nat.strongRecOn generalizing s with
  | _ n ih =>
    rw [b_loop_eq]
    rcases hs s h with q | ⟨s2, q, h2, h3, h4⟩
    · rw [q]; rfl
    · rw [q]
      show b_loop f s2 = _
      rw [ih (m s2) (by omega) s2 h2 rfl, h4]
/-- sums and searches from i up to n -/
def b_sm (f : Int → Int) (n : Int) : Nat → Int → Int
  | 0, _ => 0
  | k + 1, i => if n ≤ i then 0 else f i + b_sm f n k (i + 1)
theorem b_sm_c {f g : Int → Int} {n : Int} : ∀ (k : Nat) (i : Int), (∀ j, i ≤ j → j < n → f j = g j) → b_sm f n k i = b_sm g n k i := by
  intro k
  induction k with
  | zero => intro i _; rfl
  | succ k ih =>
    intro i h
    unfold b_sm
    by_cases q : n ≤ i
    · rw [if_pos q, if_pos q]
    · rw [if_neg q, if_neg q, h i (by omega) (by omega), ih (i + 1) (fun j h1 h2 => h j (by omega) h2)]
theorem b_sm_r {f : Int → Int} {n : Int} (hf : ∀ j, 0 ≤ f j ∧ f j ≤ 1) : ∀ (k : Nat) (i : Int), 0 ≤ b_sm f n k i ∧ b_sm f n k i ≤ k := by
  intro k
  induction k with
  | zero => intro i; exact ⟨Int.le_refl 0, Int.le_refl 0⟩
  | succ k ih =>
    intro i
    unfold b_sm
    have h1 := hf i
    have h2 := ih (i + 1)
    by_cases q : n ≤ i
    · rw [if_pos q]; omega
    · rw [if_neg q]; omega
def p_qc (M : bM) (day t : Int) : Int := b_01 (M 77 t = 2 ∧ M 80 t ≤ day ∧ M 81 (M 78 t) = M 81 (M 79 t))
theorem b_sm_s {f : Int → Int} {n i : Int} {k : Nat} (h : i < n) (hk : (k : Int) = n - i) : b_sm f n k i = f i + b_sm f n (k - 1) (i + 1) := by
  cases k with
  | zero => exact absurd hk (by omega)
  | succ k =>
    show (if n ≤ i then 0 else f i + b_sm f n k (i + 1)) = _
    rw [if_neg (by omega)]
    rfl
theorem e_X8_quarrels {M : bM} {day : Int} (hn : 0 ≤ M 2 1 ∧ M 2 1 ≤ 400) (ht : ∀ t, 0 ≤ t → t < M 2 1 → M 77 t = 2 → (0 ≤ M 78 t ∧ M 78 t < 80) ∧ (0 ≤ M 79 t ∧ M 79 t < 80)) : F_X8_quarrels day M = some (b_sm (p_qc M day) (M 2 1) (M 2 1).toNat 0) := by
  unfold F_X8_quarrels
  rw [b_loop_fun (r := fun t : Int × Int => t.1 + b_sm (p_qc M day) (M 2 1) (M 2 1 - t.2).toNat t.2) (I := fun t : Int × Int => (0 ≤ t.2 ∧ t.2 ≤ M 2 1) ∧ (0 ≤ t.1 ∧ t.1 ≤ t.2)) (m := fun t => (M 2 1 - t.2).toNat) ?_ (0, 0) ⟨⟨by dsimp only; omega, by dsimp only; omega⟩, by dsimp only; omega, by dsimp only; omega⟩]
  · show some (0 + b_sm (p_qc M day) (M 2 1) (M 2 1 - 0).toNat 0) = _
    rw [show M 2 1 - 0 = M 2 1 by omega, show ∀ z : Int, 0 + z = z from fun z => by omega]
  · intro ⟨u, t⟩ ⟨⟨h1, h2⟩, h3, h4⟩
    dsimp only at h1 h2 h3 h4 ⊢
    unfold F_X8_quarrels_s4
    by_cases q : M 2 1 ≤ t
    · refine Or.inl ?_
      rw [if_pos q, show (M 2 1 - t).toNat = 0 by omega]
      show some (Sum.inr u) = some (Sum.inr (u + 0))
      rw [show u + 0 = u by omega]
    · refine Or.inr ?_
      rw [if_neg q, b_g_s (by omega), b_sm_s (by omega) (by omega), show (M 2 1 - t).toNat - 1 = (M 2 1 - (t + 1)).toNat by omega]
      have e : p_qc M day t = b_01 (M 77 t = 2 ∧ M 80 t ≤ day ∧ M 81 (M 78 t) = M 81 (M 79 t)) := rfl
      by_cases q2 : M 77 t = 2
      · rw [if_pos q2, b_g_s (by omega)]
        by_cases q3 : day < M 80 t
        · rw [if_pos q3, b_g_s (by omega)]
          refine ⟨_, rfl, ⟨⟨by dsimp only; omega, by dsimp only; omega⟩, by dsimp only; omega, by dsimp only; omega⟩, by dsimp only; omega, ?_⟩
          rw [e, b_01_0.mpr (by omega)]
          dsimp only
          omega
        · have := ht t h1 (by omega) q2
          rw [if_neg q3, b_g_s (by omega)]
          by_cases q4 : M 81 (M 78 t) = M 81 (M 79 t)
          · rw [if_pos q4, b_g_s (by omega)]
            refine ⟨_, rfl, ⟨⟨by dsimp only; omega, by dsimp only; omega⟩, by dsimp only; omega, by dsimp only; omega⟩, by dsimp only; omega, ?_⟩
            rw [e, b_01_1.mpr ⟨q2, by omega, q4⟩]
            dsimp only
            omega
          · rw [if_neg q4, b_g_s (by omega)]
            refine ⟨_, rfl, ⟨⟨by dsimp only; omega, by dsimp only; omega⟩, by dsimp only; omega, by dsimp only; omega⟩, by dsimp only; omega, ?_⟩
            rw [e, b_01_0.mpr (fun w => q4 w.2.2)]
            dsimp only
            omega
      · rw [if_neg q2, b_g_s (by omega)]
        refine ⟨_, rfl, ⟨⟨by dsimp only; omega, by dsimp only; omega⟩, by dsimp only; omega, by dsimp only; omega⟩, by dsimp only; omega, ?_⟩
        rw [e, b_01_0.mpr (fun w => q2 w.1)]
        dsimp only
        omega
def p_qm (M : bM) (day t : Int) : Int := b_01 (M 164 t = 2 ∧ M 167 t ≤ day ∧ M 168 (M 165 t) = M 168 (M 166 t))
theorem e_nm78 {day t u x : Int} {M : bM} (h1 : b_i32 (u + x)) (h2 : b_i32 (t + 1)) : F_X12_names_b78 day t u x M = some (.inl (u + x, t + 1)) := by
  unfold F_X12_names_b78
  rw [b_g_s ⟨h1, h2⟩]
theorem e_nm77 {day t u : Int} {M : bM} (h1 : b_i32 (u + 0)) (h2 : b_i32 (t + 1)) : F_X12_names_b77 day t u M = some (.inl (u + 0, t + 1)) := e_nm78 h1 h2
theorem e_nml {M : bM} {day : Int} (hn : 0 ≤ M 11 13 ∧ M 11 13 ≤ 400) (ht : ∀ t, 0 ≤ t → t < M 11 13 → M 164 t = 2 → (0 ≤ M 165 t ∧ M 165 t < 80) ∧ (0 ≤ M 166 t ∧ M 166 t < 80)) : b_loop (fun t : Int × Int => F_X12_names_s19 day t.1 t.2 M) (0, 0) = some (b_sm (p_qm M day) (M 11 13) (M 11 13).toNat 0) := by
  rw [b_loop_fun (r := fun t : Int × Int => t.1 + b_sm (p_qm M day) (M 11 13) (M 11 13 - t.2).toNat t.2) (I := fun t : Int × Int => (0 ≤ t.2 ∧ t.2 ≤ M 11 13) ∧ (0 ≤ t.1 ∧ t.1 ≤ t.2)) (m := fun t => (M 11 13 - t.2).toNat) ?_ (0, 0) ⟨⟨by dsimp only; omega, by dsimp only; omega⟩, by dsimp only; omega, by dsimp only; omega⟩]
  · show some (0 + b_sm (p_qm M day) (M 11 13) (M 11 13 - 0).toNat 0) = _
    rw [show M 11 13 - 0 = M 11 13 by omega, show ∀ z : Int, 0 + z = z from fun z => by omega]
  · intro ⟨u, t⟩ ⟨⟨h1, h2⟩, h3, h4⟩
    dsimp only at h1 h2 h3 h4 ⊢
    unfold F_X12_names_s19
    by_cases q : M 11 13 ≤ t
    · refine Or.inl ?_
      rw [if_pos q, show (M 11 13 - t).toNat = 0 by omega]
      show some (Sum.inr u) = some (Sum.inr (u + 0))
      rw [show u + 0 = u by omega]
    · refine Or.inr ?_
      rw [if_neg q, b_g_s (by omega), b_sm_s (by omega) (by omega), show (M 11 13 - t).toNat - 1 = (M 11 13 - (t + 1)).toNat by omega]
      have e : p_qm M day t = b_01 (M 164 t = 2 ∧ M 167 t ≤ day ∧ M 168 (M 165 t) = M 168 (M 166 t)) := rfl
      have k : ∀ x, 0 ≤ x → x ≤ 1 → p_qm M day t = x → ∃ s2 : Int × Int, (some (Sum.inl (u + x, t + 1)) : Option ((Int × Int) ⊕ Int)) = some (Sum.inl s2) ∧ ((0 ≤ s2.2 ∧ s2.2 ≤ M 11 13) ∧ 0 ≤ s2.1 ∧ s2.1 ≤ s2.2) ∧ (M 11 13 - s2.2).toNat < (M 11 13 - t).toNat ∧ s2.1 + b_sm (p_qm M day) (M 11 13) (M 11 13 - s2.2).toNat s2.2 = u + (p_qm M day t + b_sm (p_qm M day) (M 11 13) (M 11 13 - (t + 1)).toNat (t + 1)) := fun x x0 x1 hx => ⟨_, rfl, ⟨⟨by dsimp only; omega, by dsimp only; omega⟩, by dsimp only; omega, by dsimp only; omega⟩, by dsimp only; omega, by rw [hx]; dsimp only; omega⟩
      by_cases q2 : M 164 t = 2
      · rw [if_pos q2, b_g_s (by omega)]
        by_cases q3 : day < M 167 t
        · rw [if_pos q3, e_nm77 (by omega) (by omega)]
          exact k 0 (by omega) (by omega) (by rw [e]; exact b_01_0.mpr (by omega))
        · have := ht t h1 (by omega) q2
          rw [if_neg q3, b_g_s (by omega)]
          by_cases q4 : M 168 (M 165 t) = M 168 (M 166 t)
          · rw [if_pos q4, e_nm78 (by omega) (by omega)]
            exact k 1 (by omega) (by omega) (by rw [e]; exact b_01_1.mpr ⟨q2, by omega, q4⟩)
          · rw [if_neg q4, e_nm77 (by omega) (by omega)]
            exact k 0 (by omega) (by omega) (by rw [e]; exact b_01_0.mpr (fun w => q4 w.2.2))
      · rw [if_neg q2, e_nm77 (by omega) (by omega)]
        exact k 0 (by omega) (by omega) (by rw [e]; exact b_01_0.mpr (fun w => q2 w.1))
