theorem t_few {M N Q : bM} {d l p n : Int} {y : Int → Int} (hG : G_all M d) (hA : Ga M d l p N) (hN : b_fr W_gat M N) (hb : M 6 0 ≤ 30) (hn : 0 ≤ n ∧ n ≤ 8) (hQ : ∀ c j, c ≠ 139 → Q c j = N c j) (hy : ∀ i, 0 ≤ i → i < n → (0 ≤ Q 139 i ∧ Q 139 i < N 7 6) ∧ N 130 (Q 139 i) = y i) (he : ∀ r, g_en M d p (jP M d r y n.toNat)) : b_wp (F_X2_fewestOfRow n Q) (fun x => Jm M d l p y n.toNat (M 3 0) x) := by
  have l1 := hG.1.2.2.1.1
  have l4 : M 218 = M 93 := hG.1.2.2.1.2.1.2.2.2.2.2
  have q3 : Q 3 0 = M 3 0 := by rw [hQ 3 0 (by decide), hN 3 0 (by decide)]
  have q75 : Q 7 5 = N 7 5 := hQ 7 5 (by decide)
  unfold F_X2_fewestOfRow F_X2_fewestOfRow_b61
  refine b_Wb (b_wp_m (fun o z => b_Ws z) ?_)
  refine b_loop_ind (I := fun t : Int × Int => (0 ≤ t.2 ∧ t.2 ≤ M 3 0) ∧ Jm M d l p y n.toNat t.2 t.1) (fun t => (M 3 0 - t.2).toNat) ?_ (-1, 0) ⟨by dsimp only; omega, Jm_0⟩
  intro ⟨a, r⟩ ⟨h1, h2⟩
  dsimp only at h1 h2 ⊢
  unfold F_X2_fewestOfRow_s4
  have ha : a = -1 ∨ 0 ≤ a := by
    rcases h2 with z | z
    · exact Or.inl z.1
    · exact Or.inr z.1
  refine b_Wi (fun q => b_Ws ?_) (fun q => ?_)
  · have e : r = M 3 0 := by clear h2; omega
    rw [← e]; exact h2
  have hrt := hA.2.2.2.2.1 r h1.1 (by clear h2; omega)
  unfold F_X2_isRoot F_X2_fewestOfRow_b33
  rw [q75]
  refine b_Wb (b_Wi (fun z => b_Ws (b_Wt rfl (b_Wt rfl (b_Wg (by clear h2; omega) (b_Ws ⟨⟨by clear h2; dsimp only; omega, Jm_n h2 (fun w => absurd (hrt.mpr w) ?_)⟩, by clear h2; dsimp only; omega⟩))))) (fun z => b_Ws (b_Wf (by decide) ?_)))
  · rw [j_tstu (by clear h2; omega)] at z
    exact z
  · rw [j_tstu (by clear h2; omega)] at z
    have hr : g_rt M l r := hrt.mp (by
      by_cases w : j_bt (N 7 5) r.toNat = true
      · exact w
      · exact absurd w z)
    have n93 : N 93 r = M 218 r := by rw [l4]; exact hN 93 r rfl
    refine b_Wb (b_wp_m (fun x w => ?_) (t_gaps hG hA hb n93 hr (by clear h2; omega) hn hQ hy))
    rcases w with ⟨w1, w2⟩ | ⟨w1, w2, w3⟩
    · exact b_Wt w1 (b_Wg (by clear h2; omega) (b_Ws ⟨⟨by clear h2; dsimp only; omega, Jm_n h2 (fun _ k => w2 k.1)⟩, by clear h2; dsimp only; omega⟩))
    · have fin : ∀ a2, a2 = (if a = -1 ∨ x < a then x else a) → Jm M d l p y n.toNat (r + 1) a2 := fun a2 h => Jm_y h2 hr ⟨w3, he r⟩ w2 w1 h
      clear w2 w3 h2
      refine b_Wf (by omega) (b_Wi (fun c => b_Wg (by omega) (b_Ws ⟨⟨by dsimp only; omega, fin _ (if_pos (Or.inl c)).symm⟩, by dsimp only; omega⟩)) (fun c => b_Wi (fun e => b_Wg (by omega) (b_Ws ⟨⟨by dsimp only; omega, fin _ (if_neg (by omega)).symm⟩, by dsimp only; omega⟩)) (fun e => b_Wg (by omega) (b_Ws ⟨⟨by dsimp only; omega, fin _ (if_pos (by omega)).symm⟩, by dsimp only; omega⟩))))
