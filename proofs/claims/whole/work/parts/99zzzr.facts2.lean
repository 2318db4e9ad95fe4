theorem fa_burnt {M : bM} : b_wl (F_X11_burnt M) (fun o => M 6 0 ≤ o.2 6 0 ∧ o.2 6 5 = 0) := by
  unfold F_X11_burnt
  rw [e_forget, b_bind_s]
  refine b_wl_b (P := fun o => M 6 0 ≤ o.2 6 0 ∧ o.2 6 5 = 0) ?_ (fun o ho => b_wl_two (b_wl_s ho))
  unfold F_X4_addBurnt
  (repeat' first | with_reducible refine b_wl_g (fun _ => ?_) | with_reducible refine b_wl_i (fun _ => ?_) (fun _ => ?_) | with_reducible refine b_wl_l ?_ | with_reducible refine b_wl_two ?_ | with_reducible refine b_wl_s ?_)
  all_goals (refine ⟨?_, ?_⟩ <;> (simp [b_up] <;> omega))
theorem fa_written {k p d b g : Int} {M : bM} : b_wl (F_X11_written k p d b g M) (fun o => (∀ i, o.2 116 i = M 116 i ∨ o.2 116 i < M 2 0) ∧ ((o.1 = 1 ∧ o.2 6 5 = 0) ∨ (o.1 ≠ 1 ∧ o.2 6 5 = M 6 5))) := by
  unfold F_X11_written
  have r : ∀ x : Int, x ≠ 1 → (∀ i, M 116 i = M 116 i ∨ M 116 i < M 2 0) ∧ ((x = 1 ∧ M 6 5 = 0) ∨ (x ≠ 1 ∧ M 6 5 = M 6 5)) := fun x h => ⟨fun _ => Or.inl rfl, Or.inr ⟨h, rfl⟩⟩
  refine b_wl_b b_wl_any (fun o _ => b_wl_i (fun _ => b_wl_s (r (-2) (by decide))) (fun _ => ?_))
  rw [e_X8_has, b_bind_s]
  refine b_wl_i (fun _ => b_wl_s (r (-2) (by decide))) (fun hp => ?_)
  rw [b_01_0] at hp
  replace hp := Decidable.not_not.mp hp
  refine b_wl_b b_wl_any (fun o _ => b_wl_i (fun _ => b_wl_s (r (-2) (by decide))) (fun _ => ?_))
  refine b_wl_i (fun _ => b_wl_s (r (-2) (by decide))) (fun _ => b_wl_i (fun _ => b_wl_s (r (-2) (by decide))) (fun _ => b_wl_i (fun _ => b_wl_s (r (-2) (by decide))) (fun _ => b_wl_i (fun _ => ?_) (fun _ => b_wl_s (r (-2) (by decide))))))
  refine b_wl_g (fun _ => b_wl_i (fun _ => b_wl_g (fun _ => ?_)) (fun _ => b_wl_s (r (-4) (by decide))))
  refine b_wl_b (P := fun N : bM => ∀ i, N 116 i = M 116 i ∨ N 116 i < M 2 0) ?_ (fun N hN => ?_)
  · unfold F_X7_sign
    refine b_wl_b b_wl_any (fun o _ => b_wl_i (fun _ => b_wl_s (fun _ => Or.inl rfl)) (fun _ => b_wl_g (fun _ => b_wl_l (b_wl_g (fun _ => b_wl_l (b_wl_g (fun _ => b_wl_l (b_wl_s (fun i => ?_)))))))))
    rw [b_upc (by decide), b_upc (by decide)]
    by_cases e : i = k
    · subst e; rw [b_ups]; exact Or.inr hp.2
    · rw [b_upi e]; exact Or.inl rfl
  · rw [e_forget, b_bind_s]
    refine b_wl_s ⟨fun i => ?_, Or.inl ⟨rfl, show b_up N 6 5 0 6 5 = 0 from b_ups⟩⟩
    (try dsimp only)
    rw [b_upc (by decide)]
    exact hN i
theorem fr_written {k p d b g : Int} {M : bM} : b_wl (F_X12_written k p d b g M) (fun o => o.1 = 1 ∨ o.2 = M) := by
  unfold F_X12_written
  refine b_wl_b b_wl_any (fun o _ => b_wl_i (fun _ => b_wl_s (Or.inr rfl)) (fun _ => ?_))
  refine b_wl_b b_wl_any (fun o _ => b_wl_i (fun _ => b_wl_s (Or.inr rfl)) (fun _ => ?_))
  refine b_wl_b b_wl_any (fun o _ => b_wl_i (fun _ => b_wl_s (Or.inr rfl)) (fun _ => ?_))
  refine b_wl_b b_wl_any (fun o _ => b_wl_i (fun _ => b_wl_s (Or.inr rfl)) (fun _ => ?_))
  refine b_wl_b b_wl_any (fun o _ => b_wl_i (fun _ => b_wl_s (Or.inr rfl)) (fun _ => ?_))
  refine b_wl_g (fun _ => b_wl_i (fun _ => ?_) (fun _ => b_wl_s (Or.inr rfl)))
  (repeat' first | with_reducible refine b_wl_g (fun _ => ?_) | with_reducible refine b_wl_i (fun _ => ?_) (fun _ => ?_) | with_reducible refine b_wl_l ?_ | with_reducible refine b_wl_two ?_ | with_reducible refine b_wl_s ?_)
  exact Or.inl rfl
theorem fa_pages {n : Int} {M : bM} : b_wl (F_X11_pages n M) (fun o => (1 ≤ M 5 1 → 1 ≤ o.2 5 1) ∧ (o.2 6 5 = 0 ∨ (o.1 = -2 ∧ o.2 6 5 = M 6 5))) := by
  unfold F_X11_pages
  refine b_wl_i (fun _ => b_wl_s ⟨fun h => h, Or.inr ⟨rfl, rfl⟩⟩) (fun h1 => b_wl_i (fun h2 => b_wl_l ?_) (fun _ => b_wl_s ⟨fun h => h, Or.inr ⟨rfl, rfl⟩⟩))
  rw [e_forget, b_bind_s]
  refine b_wl_s ⟨fun _ => ?_, Or.inl (show b_up (b_up M 5 1 n) 6 5 0 6 5 = 0 from b_ups)⟩
  (try dsimp only)
  rw [b_upc (by decide), b_ups]
  omega
theorem fr_pages {n : Int} {M : bM} (h0 : 0 ≤ M 11 54) : b_wl (F_X12_pages n M) (fun o => o.1 = -2 → o.2 = M) := by
  unfold F_X12_pages
  refine b_wl_b b_wl_any (fun o _ => b_wl_i (fun _ => b_wl_s (fun _ => rfl)) (fun _ => b_wl_l (b_wl_s (fun q => ?_))))
  (try dsimp only at q)
  omega
theorem fa_root {l p d : Int} {M : bM} : b_wl (F_X11_root l p d M) (fun o => ∀ r, o.2 92 r = M 92 r ∨ (0 ≤ o.2 92 r ∧ o.2 92 r < M 2 0)) := by
  unfold F_X11_root
  refine b_wl_b b_wl_any (fun o _ => b_wl_i (fun _ => b_wl_s (fun _ => Or.inl rfl)) (fun _ => ?_))
  rw [e_X8_has, b_bind_s]
  refine b_wl_i (fun _ => b_wl_s (fun _ => Or.inl rfl)) (fun hp => ?_)
  rw [b_01_0] at hp
  replace hp := Decidable.not_not.mp hp
  refine b_wl_b b_wl_any (fun o _ => b_wl_i (fun _ => b_wl_s (fun _ => Or.inl rfl)) (fun _ => ?_))
  refine b_wl_g (fun _ => b_wl_i (fun _ => b_wl_g (fun _ => b_wl_i (fun _ => b_wl_g (fun _ => b_wl_l (b_wl_g (fun _ => b_wl_l (b_wl_s (fun r => ?_)))))) (fun _ => b_wl_s (fun _ => Or.inl rfl)))) (fun _ => b_wl_s (fun _ => Or.inl rfl)))
  (try dsimp only)
  rw [b_upc (by decide)]
  by_cases e : r = l
  · subst e; rw [b_ups]; exact Or.inr hp
  · rw [b_upi e]; exact Or.inl rfl
theorem fa_mortgage {l p n d t : Int} {M : bM} : b_wl (F_X11_mortgage l p n d t M) (fun o => ∀ i, i < o.2 8 0 → (i < M 8 0 ∧ o.2 142 i = M 142 i) ∨ o.2 142 i < M 3 0) := by
  unfold F_X11_mortgage
  have r : ∀ i, i < M 8 0 → (i < M 8 0 ∧ M 142 i = M 142 i) ∨ M 142 i < M 3 0 := fun i h => Or.inl ⟨h, rfl⟩
  rw [e_X5_has, b_bind_s]
  refine b_wl_i (fun _ => b_wl_s r) (fun hp => ?_)
  rw [b_01_0] at hp
  replace hp := Decidable.not_not.mp hp
  refine b_wl_b b_wl_any (fun o _ => b_wl_i (fun _ => b_wl_s r) (fun _ => b_wl_i (fun _ => b_wl_s r) (fun _ => b_wl_i (fun _ => b_wl_s r) (fun _ => ?_))))
  refine b_wl_b b_wl_any (fun o _ => b_wl_i (fun _ => b_wl_s r) (fun _ => ?_))
  refine b_wl_b b_wl_any (fun o _ => b_wl_i (fun _ => b_wl_s r) (fun _ => b_wl_i (fun _ => ?_) (fun _ => b_wl_s r)))
  refine b_wl_b (P := fun o => ∀ i, i < o.2 8 0 → (i < M 8 0 ∧ o.2 142 i = M 142 i) ∨ o.2 142 i < M 3 0) ?_ (fun o ho => b_wl_two (b_wl_s ho))
  unfold F_X6_add
  refine b_wl_i (fun _ => ?_) (fun _ => b_wl_s r)
  (repeat' first | with_reducible refine b_wl_g (fun _ => ?_) | with_reducible refine b_wl_i (fun _ => ?_) (fun _ => ?_) | with_reducible refine b_wl_l ?_ | with_reducible refine b_wl_two ?_ | with_reducible refine b_wl_s ?_)
  intro i hi
  simp [b_up] at hi ⊢
  by_cases e : i = M 8 0
  · right; rw [if_pos e]; exact hp.2
  · left; exact ⟨by omega, fun q => absurd q e⟩
theorem fa_claim {p l : Int} {M : bM} : b_wl (F_X11_claim p l M) (fun o => (∀ i, i < M 9 0 → o.2 148 i = M 148 i) ∧ M 9 0 ≤ o.2 9 0 ∧ ∀ i, i < o.2 9 0 → (i < M 9 0 ∧ o.2 147 i = M 147 i ∧ o.2 148 i = M 148 i) ∨ ((0 ≤ o.2 147 i ∧ o.2 147 i < M 2 0) ∧ 0 ≤ o.2 148 i ∧ o.2 148 i < M 3 0)) := by
  unfold F_X11_claim
  have r : (∀ i, i < M 9 0 → M 148 i = M 148 i) ∧ M 9 0 ≤ M 9 0 ∧ ∀ i, i < M 9 0 → (i < M 9 0 ∧ M 147 i = M 147 i ∧ M 148 i = M 148 i) ∨ ((0 ≤ M 147 i ∧ M 147 i < M 2 0) ∧ 0 ≤ M 148 i ∧ M 148 i < M 3 0) := ⟨fun _ _ => rfl, Int.le_refl _, fun i h => Or.inl ⟨h, rfl, rfl⟩⟩
  rw [e_X8_has, b_bind_s]
  refine b_wl_i (fun _ => b_wl_s r) (fun hp => ?_)
  rw [b_01_0] at hp
  replace hp := Decidable.not_not.mp hp
  rw [e_X5_has, b_bind_s]
  refine b_wl_i (fun _ => b_wl_s r) (fun hl => ?_)
  rw [b_01_0] at hl
  replace hl := Decidable.not_not.mp hl
  refine b_wl_b b_wl_any (fun o _ => b_wl_i (fun _ => b_wl_s r) (fun _ => ?_))
  refine b_wl_b (P := fun o => (∀ i, i < M 9 0 → o.2 148 i = M 148 i) ∧ M 9 0 ≤ o.2 9 0 ∧ ∀ i, i < o.2 9 0 → (i < M 9 0 ∧ o.2 147 i = M 147 i ∧ o.2 148 i = M 148 i) ∨ ((0 ≤ o.2 147 i ∧ o.2 147 i < M 2 0) ∧ 0 ≤ o.2 148 i ∧ o.2 148 i < M 3 0)) ?_ (fun o ho => b_wl_two (b_wl_s ho))
  unfold F_X3_add
  refine b_wl_i (fun _ => ?_) (fun _ => b_wl_s r)
  (repeat' first | with_reducible refine b_wl_g (fun _ => ?_) | with_reducible refine b_wl_i (fun _ => ?_) (fun _ => ?_) | with_reducible refine b_wl_l ?_ | with_reducible refine b_wl_two ?_ | with_reducible refine b_wl_s ?_)
  refine ⟨fun i hi => ?_, ?_, fun i hi => ?_⟩
  · simp [b_up]; intro e; omega
  · simp [b_up]; omega
  · simp [b_up] at hi ⊢
    by_cases e : i = M 9 0
    · right; rw [if_pos e, if_pos e]; exact ⟨hp, hl⟩
    · left; exact ⟨by omega, fun q => absurd q e, fun q => absurd q e⟩
theorem fr_bounds {l x y : Int} {M : bM} : b_wl (F_X12_bounds l x y M) (fun o => ∀ i, (o.2 176 i = M 176 i ∨ (0 ≤ o.2 176 i ∧ o.2 176 i ≤ 99)) ∧ (o.2 177 i = M 177 i ∨ (0 ≤ o.2 177 i ∧ o.2 177 i ≤ 99))) := by
  unfold F_X12_bounds
  refine b_wl_b (w_X12_take b_fr_refl) (fun M1 h1 => ?_)
  have r1 : ∀ N : bM, N 176 = M 176 → N 177 = M 177 → ∀ i, (N 176 i = M 176 i ∨ (0 ≤ N 176 i ∧ N 176 i ≤ 99)) ∧ (N 177 i = M 177 i ∨ (0 ≤ N 177 i ∧ N 177 i ≤ 99)) := fun N a b i => ⟨Or.inl (by rw [a]), Or.inl (by rw [b])⟩
  have a1 : M1 176 = M 176 := funext fun j => h1 176 j rfl
  have b1 : M1 177 = M 177 := funext fun j => h1 177 j rfl
  refine b_wl_b b_wl_any (fun o _ => b_wl_i (fun _ => b_wl_s (r1 M1 a1 b1)) (fun _ => ?_))
  rw [e_X12_in, b_bind_s]
  refine b_wl_i (fun _ => b_wl_s (r1 M1 a1 b1)) (fun hx => ?_)
  rw [b_01_0] at hx
  replace hx := Decidable.not_not.mp hx
  rw [e_X12_in, b_bind_s]
  refine b_wl_i (fun _ => b_wl_s (r1 M1 a1 b1)) (fun hy => ?_)
  rw [b_01_0] at hy
  replace hy := Decidable.not_not.mp hy
  refine b_wl_l (b_wl_l (b_wl_b (w_X12_readBounds b_fr_refl) (fun t ht => b_wl_two ?_)))
  have a2 : t.2 176 = M 176 := (funext fun j => (ht 176 j rfl).trans (by rw [b_upc (by decide), b_upc (by decide)])).trans a1
  have b2 : t.2 177 = M 177 := (funext fun j => (ht 177 j rfl).trans (by rw [b_upc (by decide), b_upc (by decide)])).trans b1
  refine b_wl_i (fun _ => b_wl_s (r1 t.2 a2 b2)) (fun _ => b_wl_g (fun _ => b_wl_l (b_wl_g (fun _ => b_wl_l (b_wl_g (fun _ => b_wl_l ?_))))))
  generalize hS : b_up (b_up (b_up t.2 175 l (t.2 11 32)) 176 l x) 177 l y = S
  have sS : ∀ i, (S 176 i = M 176 i ∨ (0 ≤ S 176 i ∧ S 176 i ≤ 99)) ∧ (S 177 i = M 177 i ∨ (0 ≤ S 177 i ∧ S 177 i ≤ 99)) := by
    intro i
    subst hS
    by_cases e : i = l
    · subst e
      rw [b_upc (by decide), b_ups, b_ups]
      exact ⟨Or.inr hx, Or.inr hy⟩
    · rw [b_upc (by decide), b_upi e, b_upc (by decide), b_upi e, b_upc (by decide), b_upc (by decide), a2, b2]
      exact ⟨Or.inl rfl, Or.inl rfl⟩
  clear hS
  refine b_wl_b (P := fun N : bM => N 176 = S 176 ∧ N 177 = S 177) (b_wl_loop (A := fun t : Int × bM => t.2 176 = S 176 ∧ t.2 177 = S 177) (fun u hu => ?_) ⟨rfl, rfl⟩) (fun N hN => ?_)
  · unfold F_X12_bounds_s81
    refine b_wl_i (fun _ => b_wl_s hu) (fun _ => b_wl_g (fun _ => b_wl_l (b_wl_g (fun _ => b_wl_l (b_wl_g (fun _ => b_wl_s ?_))))))
    refine ⟨?_, ?_⟩
    · (try dsimp only); rw [b_upF (by decide), b_upF (by decide)]; exact hu.1
    · (try dsimp only); rw [b_upF (by decide), b_upF (by decide)]; exact hu.2
  · unfold F_X12_bounds_b140
    refine b_wl_s ?_
    (try dsimp only)
    rw [hN.1, hN.2]
    exact sS
