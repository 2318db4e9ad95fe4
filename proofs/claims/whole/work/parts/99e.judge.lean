/-- the row told on the tape holds LINKS, none twice -/
def Jv (M : bM) (l : Int) (y : Int → Int) (k : Int) : Prop := ∀ i, 0 ≤ i → i < k → g_lk M l (y i) ∧ ∀ j, 0 ≤ j → j < i → y j ≠ y i
theorem t_linkOf {M N : bM} {d l p v : Int} (hA : Ga M d l p N) (hb : M 6 0 ≤ 30) : b_wp (F_X2_linkOf v N) (fun x => (x = -1 ∧ ¬ g_lk M l v) ∨ ((0 ≤ x ∧ x < N 7 6) ∧ N 130 x = v)) := by
  have g1 := hA.1.1
  have g4 := hA.1.2.2.2
  unfold F_X2_linkOf
  have lp : b_wp (b_loop (fun t : Int => F_X2_linkOf_s2 v t N) 0) (Sum.elim (fun _ : Unit => ¬ g_lk M l v) (fun x => (0 ≤ x ∧ x < N 7 6) ∧ N 130 x = v)) := by
    refine b_loop_ind (I := fun k : Int => (0 ≤ k ∧ k ≤ N 7 6) ∧ ∀ c, 0 ≤ c → c < k → N 130 c ≠ v) (fun k => (N 7 6 - k).toNat) ?_ 0 ⟨by omega, fun c h1 h2 => by omega⟩
    intro k ⟨h1, h2⟩
    unfold F_X2_linkOf_s2
    refine b_Wi (fun q => b_Ws ?_) (fun q => b_Wg (by omega) (b_Wi (fun q1 => b_Ws ⟨⟨h1.1, by omega⟩, q1⟩) (fun q1 => b_Wg (by omega) (b_Ws ⟨⟨by omega, fun c c0 c1 => ?_⟩, by omega⟩))))
    · intro z
      obtain ⟨c, c1, c2⟩ := g4 v z.1.2 z
      exact h2 c c1.1 (by omega) c2
    · by_cases e : c = k
      · rw [e]; exact q1
      · exact h2 c c0 (by omega)
  refine b_Wb (b_wp_m (fun o z => ?_) lp)
  rcases o with u | x
  · exact b_Ws (Or.inl ⟨rfl, z⟩)
  · exact b_Ws (Or.inr z)
theorem i_and255 : ∀ n : Fin 256, i_and ((n.val : Int) - 128) 255 = if n.val < 128 then (n.val : Int) + 128 else (n.val : Int) - 128 := by decide +kernel
theorem i_and_b {x : Int} (h : -128 ≤ x ∧ x < 128) : i_and x 255 = if x < 0 then x + 256 else x := by
  have e := i_and255 ⟨(x + 128).toNat, by omega⟩
  dsimp only at e
  have e2 : (((x + 128).toNat : Nat) : Int) = x + 128 := by omega
  rw [e2, show x + 128 - 128 = x by omega] at e
  rw [e]
  by_cases q : x < 0
  · rw [if_pos (by omega), if_pos q]; omega
  · rw [if_neg (by omega), if_neg q]
theorem t_row {M N : bM} {d l p n : Int} (hA : Ga M d l p N) (hb : M 6 0 ≤ 30) (hn : n = N 1 1) (hn0 : 0 ≤ n ∧ n ≤ 1000) (hy : ∀ i, -128 ≤ N 72 i ∧ N 72 i < 128) : b_wp (b_loop (fun t : Int × bM => F_X2_judgeRow_1_s15 n t.1 t.2) (0, N)) (Sum.elim (fun Q : bM => (∀ c j, c ≠ 139 → Q c j = N c j) ∧ n ≤ 8 ∧ Jv M l (fun i => N 72 i - 48) n ∧ (∀ i, 0 ≤ i → i < n → (0 ≤ Q 139 i ∧ Q 139 i < N 7 6) ∧ N 130 (Q 139 i) = N 72 i - 48) ∧ (n = 0 → Q = N)) (fun o => (∀ c j, c ≠ 139 → o.2 c j = N c j) ∧ o.1 = -1 ∧ ¬ (n ≤ 8 ∧ Jv M l (fun i => N 72 i - 48) n))) := by
  have g1 := hA.1.1
  have g2 := hA.1.2.1
  have inc := hA.1.2.2.1
  refine b_loop_ind (I := fun t : Int × bM => (0 ≤ t.1 ∧ t.1 ≤ n ∧ t.1 ≤ 8) ∧ (∀ c j, c ≠ 139 → t.2 c j = N c j) ∧ Jv M l (fun i => N 72 i - 48) t.1 ∧ (∀ i, 0 ≤ i → i < t.1 → (0 ≤ t.2 139 i ∧ t.2 139 i < N 7 6) ∧ N 130 (t.2 139 i) = N 72 i - 48) ∧ (t.1 = 0 → t.2 = N)) (fun t => (n - t.1).toNat) ?_ (0, N) ⟨by dsimp only; omega, fun _ _ _ => rfl, fun i h1 h2 => by dsimp only at h2; omega, fun i h1 h2 => by dsimp only at h2; omega, fun _ => rfl⟩
  intro ⟨k, Q⟩ ⟨h1, h2, h3, h4, h5'⟩
  dsimp only at h1 h2 h3 h4 h5' ⊢
  unfold F_X2_judgeRow_1_s15 F_X10_byteAt
  have q11 := h2 1 1 (by decide)
  have q72 := h2 72 k (by decide)
  have hyk := hy k
  refine b_Wi (fun q => ?_) (fun q => ?_)
  · have e : k = n := by omega
    rw [e] at h3 h4
    exact b_Ws ⟨h2, by omega, h3, h4, fun z => h5' (by omega)⟩
  have by_ : ∃ x, x = i_and (Q 72 k) 255 ∧ (0 ≤ x ∧ x ≤ 255) ∧ (x < 128 → x = N 72 k) ∧ (N 72 k < 0 → 128 ≤ x) ∧ (0 ≤ N 72 k → x = N 72 k) := by
    refine ⟨_, rfl, ?_⟩
    rw [q72, i_and_b hyk]
    by_cases q0 : N 72 k < 0
    · rw [if_pos q0]; omega
    · rw [if_neg q0]; omega
  obtain ⟨x, hx, hx2, hx3, hx4, hx5⟩ := by_
  refine b_Wb (b_Wf (by omega) (b_Wf (by omega) (b_Wf (by omega) (b_Wg (by omega) (b_Ws ?_)))))
  rw [← hx]
  refine b_Wg (by omega) ?_
  have lk := t_linkOf (v := x - 48) hA hb
  have cg : F_X2_linkOf (x - 48) Q = F_X2_linkOf (x - 48) N := by
    have e130 : Q 130 = N 130 := funext fun i => h2 130 i (by decide)
    have e7 : Q 7 6 = N 7 6 := h2 7 6 (by decide)
    unfold F_X2_linkOf
    have : (fun t : Int => F_X2_linkOf_s2 (x - 48) t Q) = fun t : Int => F_X2_linkOf_s2 (x - 48) t N := by
      funext t
      unfold F_X2_linkOf_s2
      rw [e130, e7]
    rw [this]
    rfl
  rw [← cg] at lk
  refine b_Wb (b_wp_m (fun x5 z => ?_) lk)
  have bad : ¬ g_lk M l (x - 48) → ¬ (n ≤ 8 ∧ Jv M l (fun i => N 72 i - 48) n) := by
    intro nl hh
    have h := (hh.2 k h1.1 (by omega)).1
    dsimp only at h
    have : 0 ≤ N 72 k := by have := h.1; omega
    rw [hx5 this] at nl
    exact nl h
  refine b_Wi (fun a => b_Ws ⟨h2, rfl, fun z => by have := z.1; omega⟩) (fun a => b_Wi (fun b => b_Ws ⟨h2, rfl, bad ?_⟩) (fun b => ?_))
  · rcases z with z | z
    · exact z.2
    · have := z.1; omega
  have z1 := z.resolve_left (fun w => b w.1)
  have gl := g2 x5 z1.1.1 z1.1.2
  have glk := gl.1.1
  rw [z1.2] at glk
  have hxk : x = N 72 k := hx3 (by have := glk.1; omega)
  have inn : b_wp (b_loop (fun t : Int => F_X2_judgeRow_1_s55 n k x5 t Q) 0) (Sum.elim (fun _ : Unit => ∀ j, 0 ≤ j → j < k → Q 139 j ≠ x5) (Sum.elim (fun _ => False) (Sum.elim (fun _ => False) (fun o : Int × bM => o = (-1, Q) ∧ ∃ j, (0 ≤ j ∧ j < k) ∧ Q 139 j = x5)))) := by
    refine b_loop_ind (I := fun t : Int => (0 ≤ t ∧ t ≤ k) ∧ ∀ c, 0 ≤ c → c < t → Q 139 c ≠ x5) (fun t => (k - t).toNat) ?_ 0 ⟨by omega, fun c h1 h2 => by omega⟩
    intro t ⟨t1, t2⟩
    unfold F_X2_judgeRow_1_s55
    refine b_Wi (fun q => b_Ws (fun j j0 j1 => t2 j j0 (by omega))) (fun q => b_Wg (by omega) (b_Wi (fun q1 => b_Ws ⟨rfl, t, ⟨t1.1, by omega⟩, q1⟩) (fun q1 => b_Wg (by omega) (b_Ws ⟨⟨by omega, fun c c0 c1 => ?_⟩, by omega⟩))))
    by_cases e : c = t
    · rw [e]; exact q1
    · exact t2 c c0 (by omega)
  refine b_Wb (b_wp_m (fun o w => ?_) inn)
  rcases o with u | o | o | o
  · have w' : ∀ j, 0 ≤ j → j < k → Q 139 j ≠ x5 := w
    have fin : F_X2_judgeRow_1_b82 n k x5 Q = F_X2_judgeRow_1_b82 n k x5 Q := rfl
    show b_wp (F_X2_judgeRow_1_b82 n k x5 Q) _
    unfold F_X2_judgeRow_1_b82
    refine b_Wg (by omega) (b_Wl (b_Wg (by omega) (b_Ws ⟨⟨by dsimp only; omega, fun c j hc => ?_, fun i i0 i1 => ?_, fun i i0 i1 => ?_, fun z => by dsimp only at z; omega⟩, by dsimp only; omega⟩)))
    · dsimp only; rw [b_upc hc]; exact h2 c j hc
    · dsimp only at i1 ⊢
      by_cases e : i = k
      · subst e
        refine ⟨by rw [← hxk]; exact glk, fun j j0 j1 hj => ?_⟩
        have hh := h4 j j0 j1
        have ne := w' j j0 j1
        rw [hj, ← hxk, ← z1.2] at hh
        by_cases lt : Q 139 j < x5
        · have := inc _ _ hh.1.1 lt z1.1.2
          omega
        · have := inc _ _ z1.1.1 (show x5 < Q 139 j by omega) hh.1.2
          omega
      · exact h3 i i0 (by omega)
    · dsimp only at i1 ⊢
      by_cases e : i = k
      · subst e
        rw [b_ups]
        exact ⟨z1.1, by rw [z1.2, hxk]⟩
      · rw [b_upi e]
        exact h4 i i0 (by omega)
  · exact absurd w (fun z => z)
  · exact absurd w (fun z => z)
  · obtain ⟨w1, j, j1, j2⟩ := (show o = (-1, Q) ∧ ∃ j, (0 ≤ j ∧ j < k) ∧ Q 139 j = x5 from w)
    subst w1
    refine b_Ws ⟨h2, rfl, fun hh => ?_⟩
    have := (hh.2 k h1.1 (by omega)).2 j j1.1 j1.2
    have h5 := (h4 j j1.1 j1.2).2
    rw [j2, z1.2] at h5
    dsimp only at this
    omega
