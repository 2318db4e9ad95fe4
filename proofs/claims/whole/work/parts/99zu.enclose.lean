/-- lines of LOT l as they are kept -/
def Bd (M : bM) (l : Int) : Prop := (∀ i, 0 ≤ i → i < M 94 l → 1 ≤ M 179 (12 * l + i)) ∧ ((∀ i, 0 ≤ i → i < M 94 l → M 179 (12 * l + i) ≤ 60) ∨ (x_ld M l 0 (M 94 l).toNat = 0 ∧ x_ld M l 1 (M 94 l).toNat = 0 ∧ ∀ i, 0 ≤ i → i < M 94 l → M 179 (12 * l + i) ≤ 1500))
theorem Pg_of {M : bM} {l : Int} (hL : Ln M l) (hc : (0 ≤ M 95 l ∧ M 95 l ≤ 99) ∧ 0 ≤ M 96 l ∧ M 96 l ≤ 99) (hb : Bd M l) (c0 : x_ld M l 0 (M 94 l).toNat = 0) (c1 : x_ld M l 1 (M 94 l).toNat = 0) : Pg M l := by
  refine ⟨hL, hc, fun i i0 i1 => ⟨hb.1 i i0 i1, ?_⟩, c0, c1⟩
  rcases hb.2 with h | h
  · have := h i i0 i1
    omega
  · exact h.2.2 i i0 i1
theorem x_ld_f {M N : bM} {l w : Int} {k : Nat} (h8 : N 178 = M 178) (h9 : N 179 = M 179) : x_ld N l w k = x_ld M l w k := x_ld_c k (fun i _ => by rw [h8, h9]; exact ⟨rfl, rfl⟩)
theorem gFw_r {n i : Nat} (h : i < n) : gFw n i < n := by
  unfold gFw
  split <;> omega
theorem t_enclose {M N : bM} {l : Int} (hL : Ln M l) (hc : (0 ≤ M 95 l ∧ M 95 l ≤ 99) ∧ 0 ≤ M 96 l ∧ M 96 l ≤ 99) (hb : Bd M l) (hN : Nf M N) : b_wp (F_X5_enclose l N) (fun o => (∀ c j, c ≠ 100 → c ≠ 101 → o.2 c j = N c j) ∧ ((o.1 = 1 ∧ gE M l) ∨ (o.1 = 0 ∧ ¬ gE M l))) := by
  have hl := hL.1
  have hn := hL.2.1
  have n94 : N 94 l = M 94 l := hN 94 l (by decide) (by decide) (by decide) (by decide)
  have n178 : N 178 = M 178 := funext fun i => hN 178 i (by decide) (by decide) (by decide) (by decide)
  have n179 : N 179 = M 179 := funext fun i => hN 179 i (by decide) (by decide) (by decide) (by decide)
  have LN := Ln_f hL hN
  have m0 := e_miss LN (w := 0) (by decide)
  have m1 := e_miss LN (w := 1) (by decide)
  rw [n94, x_ld_f n178 n179] at m0 m1
  unfold F_X5_enclose
  rw [n94]
  refine b_Wg (by omega) (b_Wi (fun a => b_Ws ⟨fun _ _ _ _ => rfl, Or.inr ⟨rfl, fun z => ?_⟩⟩) (fun a => b_Wf (by omega) (b_We m0 (b_Wi (fun c0 => b_We m1 (b_Wi (fun c1 => ?_) (fun c1 => b_Ws ⟨fun _ _ _ _ => rfl, Or.inr ⟨rfl, fun z => c1 z.2.1.2⟩⟩))) (fun c0 => b_Ws ⟨fun _ _ _ _ => rfl, Or.inr ⟨rfl, fun z => c0 z.2.1.1⟩⟩)))))
  · have := z.1
    omega
  have hP := Pg_of hL hc hb c0 c1
  refine b_Wb (b_wp_m (fun Q z => ?_) (t_tr100 hP hN))
  obtain ⟨z1, z2⟩ := z
  have nQ : Nf M Q := fun c j a1 a2 a3 a4 => by rw [z1 c j a1 a2]; exact hN c j a1 a2 a3 a4
  have lQ := Ln_f hL nQ
  have way : ∀ i, 0 ≤ i → i < M 94 l → F_X5_wayOf l i Q = some (M 178 (12 * l + i)) := by
    intro i i0 i1
    have e := e_wayOf lQ (i := i) (by rw [nQ 94 l (by decide) (by decide) (by decide) (by decide)]; exact ⟨i0, i1⟩)
    rw [nQ 178 _ (by decide) (by decide) (by decide) (by decide)] at e
    exact e
  generalize hnn : (M 94 l).toNat = n
  have hn2 : (n : Int) = M 94 l := by omega
  refine b_Wb (b_wp_m (fun o z => ?_) (b_loop_ind (P := Sum.elim (fun _ : Unit => ∀ i : Nat, i < n → gRw M l n i) (fun o : Int × bM => o = (0, Q) ∧ ∃ i : Nat, i < n ∧ ¬ gRw M l n i)) (I := fun v : Int => (0 ≤ v ∧ v ≤ M 94 l) ∧ ∀ i : Nat, (i : Int) < v → gRw M l n i) (fun v => (M 94 l - v).toNat) ?_ 0 ⟨by omega, fun i hi => by omega⟩))
  · rcases o with u | o
    · show b_wp (F_X5_enclose_b143 Q) _
      unfold F_X5_enclose_b143
      have zz : ∀ i : Nat, i < n → gRw M l n i := z
      refine b_Ws ⟨z1, Or.inl ⟨rfl, by omega, ⟨c0, c1⟩, fun i hi => ?_⟩⟩
      rw [hnn]
      exact zz i (by omega)
    · have zz : o = (0, Q) ∧ ∃ i : Nat, i < n ∧ ¬ gRw M l n i := z
      refine b_Ws ?_
      rw [zz.1]
      obtain ⟨i, i1, i2⟩ := zz.2
      refine ⟨z1, Or.inr ⟨rfl, fun y => i2 ?_⟩⟩
      rw [← hnn]
      exact y.2.2 i (by omega)
  intro v ⟨g1, g2⟩
  unfold F_X5_enclose_s53
  refine b_Wi (fun b => b_Ws (fun i hi => g2 i (by omega))) (fun b => b_Wg (by omega) ?_)
  have b72 : ∀ u0 : Int, u0 = (gFw n v.toNat : Nat) → b_wp (F_X5_enclose_b72 l (M 94 l) v u0 Q) (Sum.elim (fun v2 : Int => ((0 ≤ v2 ∧ v2 ≤ M 94 l) ∧ ∀ i : Nat, (i : Int) < v2 → gRw M l n i) ∧ (M 94 l - v2).toNat < (M 94 l - v).toNat) (Sum.elim (fun _ : Unit => ∀ i : Nat, i < n → gRw M l n i) (fun o : Int × bM => o = (0, Q) ∧ ∃ i : Nat, i < n ∧ ¬ gRw M l n i))) := by
    intro u0 hu
    have fr := gFw_r (n := n) (i := v.toNat) (by omega)
    have w1 := (hL.2.2 v (by omega) (by omega)).2.1
    have w2 := (hL.2.2 u0 (by omega) (by omega)).2.1
    unfold F_X5_enclose_b72
    refine b_We (way v (by omega) (by omega)) (b_We (way u0 (by omega) (by omega)) ?_)
    rw [i_rem_e (by omega) (by decide), i_rem_e (by omega) (by decide)]
    have vv : ((v.toNat : Nat) : Int) = v := by omega
    refine b_Wi (fun e => b_Ws ⟨rfl, v.toNat, by omega, fun y => ?_⟩) (fun e => b_Wg (by omega) ?_)
    · have := y.1
      rw [vv, ← hu] at this
      exact this e
    refine b_Wb (b_wp_m (fun o z => ?_) (b_loop_ind (P := Sum.elim (fun _ : Unit => ∀ k : Nat, v.toNat + 2 ≤ k → k < n → (0 < v.toNat ∨ k + 1 < n) → ¬ gMt (gX M l) (gY M l) v.toNat k) (Sum.elim (fun _ : Int => False) (Sum.elim (fun _ : Unit => False) (fun o : Int × bM => o = (0, Q) ∧ ¬ gRw M l n v.toNat)))) (I := fun j : Int => v + 2 ≤ j ∧ ∀ k : Nat, v.toNat + 2 ≤ k → (k : Int) < j → k < n → (0 < v.toNat ∨ k + 1 < n) → ¬ gMt (gX M l) (gY M l) v.toNat k) (fun j => (M 94 l - j).toNat) ?_ (v + 2) ⟨by omega, fun k k1 k2 => by omega⟩))
    · rcases o with u | o | o | o
      · show b_wp (F_X5_enclose_b137 l (M 94 l) v Q) _
        unfold F_X5_enclose_b137
        have zz : ∀ k : Nat, v.toNat + 2 ≤ k → k < n → (0 < v.toNat ∨ k + 1 < n) → ¬ gMt (gX M l) (gY M l) v.toNat k := z
        refine b_Wg (by omega) (b_Ws ⟨⟨by omega, fun i hi => ?_⟩, by omega⟩)
        by_cases ei : i = v.toNat
        · subst ei
          refine ⟨?_, zz⟩
          rw [vv, ← hu]
          exact e
        · exact g2 i (by omega)
      · exact z.elim
      · exact z.elim
      · have zz : o = (0, Q) ∧ ¬ gRw M l n v.toNat := z
        exact b_Ws ⟨zz.1, v.toNat, by omega, zz.2⟩
    · intro j ⟨j1, j2⟩
      have b119 : j < M 94 l → (0 < v.toNat ∨ j.toNat + 1 < n) → b_wp (F_X5_enclose_b119 l (M 94 l) v j Q) (Sum.elim (fun j3 : Int => (v + 2 ≤ j3 ∧ ∀ k : Nat, v.toNat + 2 ≤ k → (k : Int) < j3 → k < n → (0 < v.toNat ∨ k + 1 < n) → ¬ gMt (gX M l) (gY M l) v.toNat k) ∧ (M 94 l - j3).toNat < (M 94 l - j).toNat) (Sum.elim (fun _ : Unit => ∀ k : Nat, v.toNat + 2 ≤ k → k < n → (0 < v.toNat ∨ k + 1 < n) → ¬ gMt (gX M l) (gY M l) v.toNat k) (Sum.elim (fun _ : Int => False) (Sum.elim (fun _ : Unit => False) (fun o : Int × bM => o = (0, Q) ∧ ¬ gRw M l n v.toNat))))) := by
        intro j3 j4
        unfold F_X5_enclose_b119
        refine b_Wb (b_wp_m (fun x y => ?_) (t_meet hP z2 (i := v) (k := j) (by omega) (by omega)))
        rcases y with y | y
        · refine b_Wt y.1 (b_Wg (by omega) (b_Ws ⟨⟨by omega, fun k k1 k2 k3 k4 => ?_⟩, by omega⟩))
          by_cases ek : k = j.toNat
          · rw [ek]; exact y.2
          · exact j2 k k1 (by omega) k3 k4
        · exact b_Wf (by omega) (b_Ws ⟨rfl, fun r => r.2 j.toNat (by omega) (by omega) j4 y.2⟩)
      unfold F_X5_enclose_s101
      refine b_Wi (fun c => b_Ws (fun k k1 k2 k3 => j2 k k1 (by omega) k2 k3)) (fun c => b_Wi (fun d => b119 (by omega) (by omega)) (fun d => b_Wg (by omega) (b_Wi (fun e => b_Wg (by omega) (b_Ws ⟨⟨by omega, fun k k1 k2 k3 k4 => ?_⟩, by omega⟩)) (fun e => b119 (by omega) (by omega)))))
      by_cases ek : k = j.toNat
      · omega
      · exact j2 k k1 (by omega) k3 k4
  refine b_Wi (fun c => b72 0 ?_) (fun c => b_Wg (by omega) (b72 (v + 1) ?_))
  · unfold gFw
    rw [if_neg (by omega)]
    rfl
  · unfold gFw
    rw [if_pos (by omega)]
    omega
/-- a row with an AREA meets itself nowhere -/
theorem gE_P {M : bM} {l : Int} (h : Pg M l) (hE : gE M l) : gP (gX M l) (gY M l) (M 94 l).toNat := by
  obtain ⟨hL, hc, hf, c0, c1⟩ := h
  have hn := hL.2.1
  obtain ⟨e4, _, eR⟩ := hE
  generalize hnn : (M 94 l).toNat = n at *
  have hn2 : (n : Int) = M 94 l := by omega
  have st : ∀ i : Nat, i < n → (M 178 (12 * l + i) % 2 = 0 ∧ gX M l (i + 1) = gX M l i ∧ gY M l (i + 1) ≠ gY M l i) ∨ (M 178 (12 * l + i) % 2 = 1 ∧ gY M l (i + 1) = gY M l i ∧ gX M l (i + 1) ≠ gX M l i) := by
    intro i hi
    have w := (hL.2.2 i (by omega) (by omega)).2.1
    have f := hf i (by omega) (by omega)
    rw [gX_s, gY_s]
    have c : M 178 (12 * l + (i : Int)) = 0 ∨ M 178 (12 * l + (i : Int)) = 1 ∨ M 178 (12 * l + (i : Int)) = 2 ∨ M 178 (12 * l + (i : Int)) = 3 := by omega
    rcases c with c | c | c | c <;> rw [c]
    · rw [if_neg (by decide), if_neg (by decide), if_pos rfl]; omega
    · rw [if_pos rfl, if_neg (by decide), if_neg (by decide)]; omega
    · rw [if_neg (by decide), if_neg (by decide), if_neg (by decide), if_pos rfl]; omega
    · rw [if_neg (by decide), if_pos rfl, if_neg (by decide), if_neg (by decide)]; omega
  have par : ∀ i k : Nat, i < n → k < n → gA n i k → M 178 (12 * l + i) % 2 ≠ M 178 (12 * l + k) % 2 := by
    intro i k hi hk a
    have r1 := (eR i (by omega)).1
    have r2 := (eR k (by omega)).1
    unfold gFw at r1 r2
    rcases a with a | a | a | a
    · rw [if_pos (by omega)] at r1
      rw [a]; exact r1
    · rw [if_pos (by omega)] at r2
      rw [a]; exact fun z => r2 z.symm
    · rw [if_neg (by omega)] at r2
      rw [a.1]; exact fun z => r2 z.symm
    · rw [if_neg (by omega)] at r1
      rw [a.1]; exact r1
  refine ⟨by omega, ⟨?_, ?_⟩, fun i hi => ?_, fun i k hi hk a => ?_, fun i k hi hk ne na x y p q => ?_⟩
  · show M 95 l + x_ld M l 1 n = M 95 l + 0
    rw [c1]
  · show M 96 l + x_ld M l 0 n = M 96 l + 0
    rw [c0]
  · rcases st i hi with s | s
    · exact Or.inl s.2
    · exact Or.inr s.2
  · have pr := par i k hi hk a
    rcases st i hi with s | s <;> rcases st k hk with t | t
    · omega
    · exact ⟨fun _ => t.2.1, fun _ => s.2.1⟩
    · exact ⟨fun z => absurd z s.2.2, fun z => absurd z t.2.2⟩
    · omega
  · unfold gA at na
    have go : ∀ i k : Nat, i < k → k < n → ¬ (k = i + 1 ∨ (i = 0 ∧ k + 1 = n)) → gI (gX M l) (gY M l) i x y → gI (gX M l) (gY M l) k x y → False := by
      intro i k ik kn nn p q
      refine (eR i (by omega)).2 k (by omega) kn (by omega) ?_
      unfold gI at p q
      unfold gMt
      omega
    by_cases c : i < k
    · exact go i k c hk (by omega) p q
    · exact go k i (by omega) hi (by omega) q p
