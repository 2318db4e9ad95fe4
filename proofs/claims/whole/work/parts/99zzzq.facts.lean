/-! what calls leave, beyond their frames -/
theorem b_wl_and {α : Type} {x : Option α} {P K : α → Prop} (h : b_wl x P) (h2 : b_wl x K) : b_wl x (fun a => P a ∧ K a) := fun a e => ⟨h a e, h2 a e⟩
theorem b_wl_m {α : Type} {x : Option α} {P K : α → Prop} (hk : ∀ a, P a → K a) (h : b_wl x P) : b_wl x K := fun a e => hk a (h a e)
theorem fa_add8 {f : Int} {M : bM} : b_wl (F_X8_add f M) (fun o => M 2 0 ≤ o.2 2 0) := by
  unfold F_X8_add
  (repeat' first | with_reducible refine b_wl_g (fun _ => ?_) | with_reducible refine b_wl_i (fun _ => ?_) (fun _ => ?_) | with_reducible refine b_wl_l ?_ | with_reducible refine b_wl_two ?_ | with_reducible refine b_wl_s ?_)
  all_goals (simp [b_up] <;> omega)
theorem fa_person {f : Int} {M : bM} : b_wl (F_X11_person f M) (fun o => M 2 0 ≤ o.2 2 0) := by
  unfold F_X11_person
  refine b_wl_b b_wl_any (fun o _ => ?_)
  refine b_wl_i (fun _ => b_wl_s (Int.le_refl _)) (fun _ => b_wl_b fa_add8 (fun o ho => b_wl_two (b_wl_s ho)))
theorem fr_person {f : Int} {M : bM} : b_wl (F_X12_person f M) (fun o => ∀ p, p ≠ M 11 12 → o.2 163 p = M 163 p) := by
  unfold F_X12_person
  refine b_wl_b b_wl_any (fun o _ => ?_)
  (repeat' first | with_reducible refine b_wl_g (fun _ => ?_) | with_reducible refine b_wl_i (fun _ => ?_) (fun _ => ?_) | with_reducible refine b_wl_l ?_ | with_reducible refine b_wl_two ?_ | with_reducible refine b_wl_s ?_)
  all_goals (intro p hp; simp [b_up, hp])
/-- a telling, class -/
def T_c (M N : bM) : Prop := M 2 1 ≤ N 2 1 ∧ (M 2 1 < N 2 1 → N 6 5 = 0) ∧ (N 6 5 = 0 ∨ N 6 5 = M 6 5)
theorem T_c_r {M : bM} : T_c M M := ⟨Int.le_refl _, fun h => absurd h (by omega), Or.inr rfl⟩
theorem fa_tell8 {a b c d : Int} {M : bM} : b_wl (F_X8_tell a b c d M) (fun o => M 2 1 ≤ o.2 2 1 ∧ o.2 6 5 = M 6 5) := by
  unfold F_X8_tell
  (repeat' first | with_reducible refine b_wl_g (fun _ => ?_) | with_reducible refine b_wl_i (fun _ => ?_) (fun _ => ?_) | with_reducible refine b_wl_l ?_ | with_reducible refine b_wl_two ?_ | with_reducible refine b_wl_s ?_)
  all_goals (refine ⟨?_, ?_⟩ <;> (simp [b_up] <;> omega))
theorem fa_tf {a b c d : Int} {M : bM} : b_wl (F_X8_tell a b c d (b_up M 6 5 0)) (fun o => T_c M o.2) := by
  refine b_wl_m (fun o ho => ?_) fa_tell8
  rw [b_upc (by decide), b_ups] at ho
  exact ⟨ho.1, fun _ => ho.2, Or.inl ho.2⟩
theorem e_forget {M : bM} : F_X4_forget M = some (b_up M 6 5 0) := rfl
theorem fa_dead {p f : Int} {M : bM} : b_wl (F_X11_dead p f M) (fun o => T_c M o.2) := by
  unfold F_X11_dead
  refine b_wl_b b_wl_any (fun o _ => b_wl_i (fun _ => b_wl_s T_c_r) (fun _ => ?_))
  refine b_wl_b b_wl_any (fun o _ => b_wl_i (fun _ => b_wl_s T_c_r) (fun _ => ?_))
  rw [e_forget, b_bind_s]
  exact b_wl_b fa_tf (fun o ho => b_wl_two (b_wl_s ho))
theorem fa_two {w p f : Int} {M : bM} : b_wl (F_X11_tellOfTwo w p f M) (fun o => T_c M o.2) := by
  unfold F_X11_tellOfTwo
  refine b_wl_b b_wl_any (fun o _ => b_wl_i (fun _ => b_wl_s T_c_r) (fun _ => ?_))
  refine b_wl_b b_wl_any (fun o _ => b_wl_i (fun _ => b_wl_s T_c_r) (fun _ => b_wl_i (fun _ => b_wl_s T_c_r) (fun _ => ?_)))
  rw [e_forget, b_bind_s]
  exact b_wl_b fa_tf (fun o ho => b_wl_two (b_wl_s ho))
theorem fa_same {p f : Int} {M : bM} : b_wl (F_X11_same p f M) (fun o => T_c M o.2) := by
  unfold F_X11_same
  exact b_wl_b fa_two (fun o ho => b_wl_two (b_wl_s ho))
theorem fa_apart {p f : Int} {M : bM} : b_wl (F_X11_apart p f M) (fun o => T_c M o.2) := by
  unfold F_X11_apart
  exact b_wl_b fa_two (fun o ho => b_wl_two (b_wl_s ho))
theorem fa_child {p f : Int} {M : bM} : b_wl (F_X11_child p f M) (fun o => T_c M o.2) := by
  unfold F_X11_child
  exact b_wl_b fa_two (fun o ho => b_wl_two (b_wl_s ho))
theorem fr_tell {a b c : Int} {M : bM} : b_wl (F_X12_tell a b c M) (fun o => o.2 = M ∨ o.2 11 13 = M 11 13 + 1) := by
  unfold F_X12_tell
  refine b_wl_i (fun _ => b_wl_s (Or.inl rfl)) (fun _ => ?_)
  (repeat' first | with_reducible refine b_wl_g (fun _ => ?_) | with_reducible refine b_wl_i (fun _ => ?_) (fun _ => ?_) | with_reducible refine b_wl_l ?_ | with_reducible refine b_wl_two ?_ | with_reducible refine b_wl_s ?_)
  exact Or.inr (by simp [b_up])
theorem fr_dead {p f : Int} {M : bM} : b_wl (F_X12_dead p f M) (fun o => o.2 = M ∨ o.2 11 13 = M 11 13 + 1) := by
  unfold F_X12_dead
  refine b_wl_b b_wl_any (fun o _ => b_wl_i (fun _ => b_wl_s (Or.inl rfl)) (fun _ => ?_))
  refine b_wl_b b_wl_any (fun o _ => b_wl_i (fun _ => b_wl_s (Or.inl rfl)) (fun _ => ?_))
  exact b_wl_b fr_tell (fun o ho => b_wl_two (b_wl_s ho))
theorem fr_same {p f : Int} {M : bM} : b_wl (F_X12_same p f M) (fun o => o.2 = M ∨ o.2 11 13 = M 11 13 + 1) := by
  unfold F_X12_same
  refine b_wl_b b_wl_any (fun o _ => b_wl_i (fun _ => b_wl_s (Or.inl rfl)) (fun _ => ?_))
  exact b_wl_b fr_tell (fun o ho => b_wl_two (b_wl_s ho))
theorem fr_apart {p f : Int} {M : bM} : b_wl (F_X12_apart p f M) (fun o => o.2 = M ∨ o.2 11 13 = M 11 13 + 1) := by
  unfold F_X12_apart
  refine b_wl_b b_wl_any (fun o _ => b_wl_i (fun _ => b_wl_s (Or.inl rfl)) (fun _ => ?_))
  exact b_wl_b fr_tell (fun o ho => b_wl_two (b_wl_s ho))
theorem fr_child {p f : Int} {M : bM} : b_wl (F_X12_child p f M) (fun o => o.2 = M ∨ o.2 11 13 = M 11 13 + 1) := by
  unfold F_X12_child
  refine b_wl_b b_wl_any (fun o _ => b_wl_i (fun _ => b_wl_s (Or.inl rfl)) (fun _ => ?_))
  exact b_wl_b fr_tell (fun o ho => b_wl_two (b_wl_s ho))
/-! LOTS -/
theorem fr_add {a b c : Int} {M : bM} : b_wl (F_X12_add a b c M) (fun o => o.2 11 20 = M 11 20 + 1 ∧ ∀ l, l ≠ M 11 20 → o.2 170 l = M 170 l) := by
  unfold F_X12_add
  (repeat' first | with_reducible refine b_wl_g (fun _ => ?_) | with_reducible refine b_wl_i (fun _ => ?_) (fun _ => ?_) | with_reducible refine b_wl_l ?_ | with_reducible refine b_wl_two ?_ | with_reducible refine b_wl_s ?_)
  refine ⟨by simp [b_up], fun l hl => by simp [b_up, hl]⟩
theorem fr_lot {a b : Int} {M : bM} : b_wl (F_X12_lot a b M) (fun o => M 11 20 ≤ o.2 11 20 ∧ ∀ l, l ≠ M 11 20 → o.2 170 l = M 170 l) := by
  unfold F_X12_lot
  have r : M 11 20 ≤ M 11 20 ∧ ∀ l, l ≠ M 11 20 → M 170 l = M 170 l := ⟨Int.le_refl _, fun _ _ => rfl⟩
  refine b_wl_b b_wl_any (fun o _ => b_wl_i (fun _ => b_wl_s r) (fun _ => ?_))
  refine b_wl_b b_wl_any (fun o _ => b_wl_i (fun _ => b_wl_s r) (fun _ => b_wl_i (fun _ => b_wl_s r) (fun _ => ?_)))
  exact b_wl_b fr_add (fun o ho => b_wl_two (b_wl_s ⟨by have := ho.1; (try dsimp only); omega, ho.2⟩))
theorem fa_split {a b c d e f g : Int} {M : bM} : b_wl (F_X11_split a b c d e f g M) (fun o => o.2 6 5 = 0 ∨ (o.1 < 0 ∧ o.2 6 5 = M 6 5)) := by
  unfold F_X11_split
  have r : ∀ x : Int, x < 0 → (M 6 5 = 0 ∨ (x < 0 ∧ M 6 5 = M 6 5)) := fun x h => Or.inr ⟨h, rfl⟩
  refine b_wl_b b_wl_any (fun o _ => b_wl_i (fun _ => b_wl_s (r (-2) (by decide))) (fun _ => ?_))
  refine b_wl_b b_wl_any (fun o _ => b_wl_i (fun _ => b_wl_s (r (-2) (by decide))) (fun _ => ?_))
  refine b_wl_i (fun _ => b_wl_s (r (-2) (by decide))) (fun _ => b_wl_i (fun _ => ?_) (fun _ => b_wl_s (r (-2) (by decide))))
  refine b_wl_b (w_X5_four b_fr_refl) (fun M7 hf => ?_)
  have k : M7 6 5 = M 6 5 := hf 6 5 (by decide +kernel)
  have r7 : ∀ x : Int, x < 0 → (M7 6 5 = 0 ∨ (x < 0 ∧ M7 6 5 = M 6 5)) := fun x h => Or.inr ⟨h, k⟩
  refine b_wl_b b_wl_any (fun o _ => b_wl_i (fun _ => b_wl_s (r7 (-2) (by decide))) (fun _ => ?_))
  refine b_wl_b b_wl_any (fun o _ => b_wl_i (fun _ => b_wl_s (r7 (-4) (by decide))) (fun _ => ?_))
  refine b_wl_b b_wl_any (fun o _ => b_wl_i (fun _ => ?_) (fun _ => b_wl_s (r7 (-3) (by decide))))
  rw [e_forget, b_bind_s]
  refine b_wl_b (w_X5_divide b_fr_refl) (fun o ho => b_wl_two (b_wl_s (Or.inl ?_)))
  exact (ho 6 5 (by decide +kernel)).trans b_ups
theorem fa_join {a b c d e f g : Int} {M : bM} : b_wl (F_X11_join a b c d e f g M) (fun o => o.2 6 5 = 0 ∨ (o.1 < 0 ∧ o.2 6 5 = M 6 5)) := by
  unfold F_X11_join
  have r : ∀ x : Int, x < 0 → (M 6 5 = 0 ∨ (x < 0 ∧ M 6 5 = M 6 5)) := fun x h => Or.inr ⟨h, rfl⟩
  refine b_wl_i (fun _ => b_wl_s (r (-2) (by decide))) (fun _ => b_wl_i (fun _ => b_wl_s (r (-2) (by decide))) (fun _ => ?_))
  refine b_wl_b b_wl_any (fun o _ => b_wl_i (fun _ => b_wl_s (r (-2) (by decide))) (fun _ => ?_))
  refine b_wl_b b_wl_any (fun o _ => b_wl_i (fun _ => b_wl_s (r (-2) (by decide))) (fun _ => ?_))
  refine b_wl_b (w_X5_four b_fr_refl) (fun M7 hf => ?_)
  have k : M7 6 5 = M 6 5 := hf 6 5 (by decide +kernel)
  have r7 : ∀ x : Int, x < 0 → (M7 6 5 = 0 ∨ (x < 0 ∧ M7 6 5 = M 6 5)) := fun x h => Or.inr ⟨h, k⟩
  refine b_wl_b b_wl_any (fun o _ => b_wl_i (fun _ => b_wl_s (r7 (-2) (by decide))) (fun _ => ?_))
  refine b_wl_b b_wl_any (fun o _ => b_wl_i (fun _ => b_wl_s (r7 (-4) (by decide))) (fun _ => ?_))
  refine b_wl_b b_wl_any (fun o _ => b_wl_i (fun _ => ?_) (fun _ => b_wl_s (r7 (-3) (by decide))))
  rw [e_forget, b_bind_s]
  refine b_wl_b (w_X5_unite b_fr_refl) (fun o ho => b_wl_two (b_wl_s (Or.inl ?_)))
  exact (ho 6 5 (by decide +kernel)).trans b_ups
/-- a new row of LOTS, reference: refused, or more LOTS -/
def L_r (M : bM) (o : Int × bM) : Prop := M 11 20 ≤ o.2 11 20 ∧ (o.1 < 0 → o.2 = M)
theorem L_r0 {M : bM} {x : Int} : L_r M (x, M) := ⟨Int.le_refl _, fun _ => rfl⟩
theorem fr_b208 {v1 v2 v3 v7 v8 : Int} {M : bM} : b_wl (F_X12_split_b208 v1 v2 v3 v7 v8 M) (fun o => o.1 = v8 ∧ M 11 20 ≤ o.2 11 20) := by
  unfold F_X12_split_b208
  refine b_wl_i (fun _ => b_wl_s ⟨rfl, Int.le_refl _⟩) (fun _ => b_wl_g (fun _ => b_wl_b fr_add (fun o ho => b_wl_two (b_wl_s ⟨rfl, by have := ho.1; (try dsimp only); omega⟩))))
theorem fr_b159 {v1 v2 v3 v4 v5 v6 v7 v8 u1 u2 u3 : Int} {M : bM} : b_wl (F_X12_split_b159 v1 v2 v3 v4 v5 v6 v7 v8 u1 u2 u3 M) (fun o => o.1 = v8 ∧ M 11 20 ≤ o.2 11 20) := by
  unfold F_X12_split_b159
  refine b_wl_g (fun _ => b_wl_l (b_wl_g (fun _ => b_wl_b fr_add (fun o1 h1 => b_wl_two (b_wl_g (fun _ => b_wl_b fr_add (fun o2 h2 => b_wl_two ?_)))))))
  have a1 := h1.1
  rw [b_upc (by decide)] at a1
  have a2 := h2.1
  refine b_wl_i (fun _ => b_wl_m (fun o ho => ⟨ho.1, by have := ho.2; omega⟩) fr_b208) (fun _ => b_wl_g (fun _ => b_wl_b fr_add (fun o3 h3 => b_wl_two (b_wl_m (fun o ho => ⟨ho.1, by have := ho.2; have := h3.1; omega⟩) fr_b208))))
theorem fr_b69 {v1 v2 v3 v4 v5 v6 v7 : Int} {M : bM} (h0 : 0 ≤ M 11 20) : b_wl (F_X12_split_b69 v1 v2 v3 v4 v5 v6 v7 M) (L_r M) := by
  unfold F_X12_split_b69
  have k : ∀ {u1 u2 u3 : Int}, b_wl (F_X12_split_b147 v1 v2 v3 v4 v5 v6 v7 (M 11 20) u1 u2 u3 (b_up M 171 v1 v2)) (L_r M) := by
    intro u1 u2 u3
    unfold F_X12_split_b147
    have g : ∀ o : Int × bM, (o.1 = M 11 20 ∧ b_up M 171 v1 v2 11 20 ≤ o.2 11 20) → L_r M o := fun o ho => by
      rw [b_upc (by decide)] at ho
      exact ⟨ho.2, fun q => absurd q (by have := ho.1; omega)⟩
    exact b_wl_g (fun _ => b_wl_i (fun _ => b_wl_m g fr_b159) (fun _ => b_wl_m g fr_b159))
  refine b_wl_g (fun _ => b_wl_i (fun _ => b_wl_s L_r0) (fun _ => b_wl_g (fun _ => b_wl_i (fun _ => b_wl_g (fun _ => b_wl_i (fun _ => b_wl_g (fun _ => b_wl_l (b_wl_g (fun _ => b_wl_i (fun _ => k) (fun _ => k))))) (fun _ => b_wl_s L_r0))) (fun _ => b_wl_s L_r0))))
theorem fr_split {v1 v2 v3 v4 v5 v6 v7 : Int} {M : bM} (h0 : 0 ≤ M 11 20) : b_wl (F_X12_split v1 v2 v3 v4 v5 v6 v7 M) (L_r M) := by
  unfold F_X12_split
  have b53 : b_wl (F_X12_split_b53 v1 v2 v3 v4 v5 v6 v7 M) (L_r M) := by
    unfold F_X12_split_b53
    exact b_wl_i (fun _ => fr_b69 h0) (fun _ => b_wl_b b_wl_any (fun o _ => b_wl_i (fun _ => b_wl_s L_r0) (fun _ => fr_b69 h0)))
  refine b_wl_b b_wl_any (fun o _ => b_wl_i (fun _ => b_wl_s L_r0) (fun _ => ?_))
  refine b_wl_b b_wl_any (fun o _ => b_wl_i (fun _ => b_wl_s L_r0) (fun _ => ?_))
  refine b_wl_b b_wl_any (fun o _ => b_wl_i (fun _ => b_wl_s L_r0) (fun _ => ?_))
  refine b_wl_b b_wl_any (fun o _ => b_wl_i (fun _ => b_wl_s L_r0) (fun _ => ?_))
  refine b_wl_b b_wl_any (fun o _ => b_wl_i (fun _ => b_wl_s L_r0) (fun _ => b_wl_i (fun _ => b53) (fun _ => ?_)))
  exact b_wl_b b_wl_any (fun o _ => b_wl_i (fun _ => b_wl_s L_r0) (fun _ => b53))
theorem fr_b202 {v6 v7 v8 v10 v12 : Int} {M : bM} : b_wl (F_X12_join_b202 v6 v7 v8 v10 v12 M) (L_r M) := by
  unfold F_X12_join_b202
  refine b_wl_i (fun _ => b_wl_s L_r0) (fun _ => ?_)
  refine b_wl_b (P := fun t : bM => t 11 20 = M 11 20) (b_wl_loop (A := fun t : Int × bM => t.2 11 20 = M 11 20) (fun t ht => ?_) rfl) (fun t ht => ?_)
  · unfold F_X12_join_s217
    refine b_wl_i (fun _ => b_wl_s ht) (fun _ => b_wl_i (fun _ => b_wl_g (fun _ => b_wl_l (b_wl_g (fun _ => b_wl_s ?_)))) (fun _ => b_wl_g (fun _ => b_wl_s ht)))
    show b_up t.2 171 t.1 v6 11 20 = M 11 20
    rw [b_upc (by decide)]; exact ht
  · unfold F_X12_join_b253
    refine b_wl_b fr_add (fun o ho => b_wl_two (b_wl_g (fun hg => b_wl_l (b_wl_s ?_))))
    refine ⟨?_, fun q => absurd q (by have := hg.2.1; (try dsimp only); omega)⟩
    (try dsimp only)
    rw [b_upc (by decide)]
    have := ho.1
    omega
theorem fr_join {v1 v2 v3 v4 v5 v6 v7 : Int} {M : bM} : b_wl (F_X12_join v1 v2 v3 v4 v5 v6 v7 M) (L_r M) := by
  unfold F_X12_join
  refine b_wl_b b_wl_any (fun o _ => b_wl_i (fun _ => b_wl_s L_r0) (fun _ => ?_))
  refine b_wl_b b_wl_any (fun o _ => b_wl_i (fun _ => b_wl_s L_r0) (fun _ => ?_))
  refine b_wl_b b_wl_any (fun o _ => b_wl_i (fun _ => b_wl_s L_r0) (fun _ => ?_))
  have q72 : ∀ {v8 v10 u0 : Int}, b_wl (F_X12_join_b72 v1 v2 v3 v4 v5 v6 v7 v8 v10 u0 M) (Sum.elim (fun _ => True) (Sum.elim (fun _ => True) (L_r M))) := by
    intro v8 v10 u0
    unfold F_X12_join_b72
    exact b_wl_b b_wl_any (fun o _ => b_wl_i (fun _ => b_wl_s L_r0) (fun _ => b_wl_i (fun _ => b_wl_s L_r0) (fun _ => b_wl_l (b_wl_g (fun _ => b_wl_s trivial)))))
  refine b_wl_b (P := Sum.elim (fun _ => True) (L_r M)) (b_wl_loop (A := fun _ => True) (fun t _ => ?_) trivial) (fun t ht => ?_)
  · unfold F_X12_join_s34
    exact b_wl_i (fun _ => b_wl_s trivial) (fun _ => b_wl_i (fun _ => q72) (fun _ => b_wl_i (fun _ => q72) (fun _ => b_wl_i (fun _ => q72) (fun _ => q72))))
  · rcases t with t | o
    · refine b_wl_inl ?_
      unfold F_X12_join_b113
      refine b_wl_b (P := Sum.elim (fun _ => True) (L_r M)) (b_wl_loop (A := fun _ => True) (fun t _ => ?_) trivial) (fun t ht => ?_)
      · unfold F_X12_join_s122
        exact b_wl_i (fun _ => b_wl_s trivial) (fun _ => b_wl_i (fun _ => b_wl_g (fun _ => b_wl_s trivial)) (fun _ => b_wl_g (fun _ => b_wl_i (fun _ => b_wl_s L_r0) (fun _ => b_wl_g (fun _ => b_wl_i (fun _ => b_wl_g (fun _ => b_wl_l (b_wl_g (fun _ => b_wl_l (b_wl_g (fun _ => b_wl_s trivial)))))) (fun _ => b_wl_s L_r0))))))
      · rcases t with t | o
        · exact b_wl_inl fr_b202
        · exact b_wl_s ht
    · exact b_wl_s ht
