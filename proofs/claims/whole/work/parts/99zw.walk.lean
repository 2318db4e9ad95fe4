/-! the reference's corners -/
def Nr (M N : bM) : Prop := ∀ c j, c ≠ 100 → c ≠ 101 → c ≠ 102 → c ≠ 103 → c ≠ 180 → c ≠ 181 → N c j = M c j
theorem t_walk {M N : bM} {l v : Int} (h : Pg M l) (he : M 176 l = M 95 l ∧ M 177 l = M 96 l) (hN : Nr M N) (hv : v = 0 ∨ v = 13) : b_wp (F_X12_walk l v N) (fun O => (∀ c j, c ≠ 180 → c ≠ 181 → O c j = N c j) ∧ (∀ j, ¬ (v ≤ j ∧ j ≤ v + M 94 l) → O 180 j = N 180 j ∧ O 181 j = N 181 j) ∧ ∀ k : Nat, (k : Int) ≤ M 94 l → O 180 (v + k) = gX M l k ∧ O 181 (v + k) = gY M l k) := by
  obtain ⟨hL, hc, hf, c0, c1⟩ := h
  have hl := hL.1
  have hn := hL.2.1
  unfold F_X12_walk
  rw [hN 176 l (by decide) (by decide) (by decide) (by decide) (by decide) (by decide), hN 177 l (by decide) (by decide) (by decide) (by decide) (by decide) (by decide), he.1, he.2]
  refine b_Wg (by omega) (b_Wl (b_Wg (by omega) (b_Wl (b_Wb (b_wp_m (fun o z => ?_) (b_loop_ind (P := Sum.elim (fun _ : bM => False) (fun O : bM => (∀ c j, c ≠ 180 → c ≠ 181 → O c j = N c j) ∧ (∀ j, ¬ (v ≤ j ∧ j ≤ v + M 94 l) → O 180 j = N 180 j ∧ O 181 j = N 181 j) ∧ ∀ k : Nat, (k : Int) ≤ M 94 l → O 180 (v + k) = gX M l k ∧ O 181 (v + k) = gY M l k)) (I := fun s : Int × Int × Int × bM => (0 ≤ s.2.2.1 ∧ s.2.2.1 ≤ M 94 l) ∧ (s.1 = gX M l s.2.2.1.toNat ∧ s.2.1 = gY M l s.2.2.1.toNat) ∧ (∀ c j, c ≠ 180 → c ≠ 181 → s.2.2.2 c j = N c j) ∧ (∀ j, ¬ (v ≤ j ∧ j < v + s.2.2.1) → s.2.2.2 180 j = N 180 j ∧ s.2.2.2 181 j = N 181 j) ∧ ∀ k : Nat, (k : Int) < s.2.2.1 → s.2.2.2 180 (v + k) = gX M l k ∧ s.2.2.2 181 (v + k) = gY M l k) (fun s => (M 94 l - s.2.2.1).toNat) ?_ (M 95 l, M 96 l, 0, N) ⟨by dsimp only; omega, ⟨by dsimp only; show M 95 l = M 95 l + 0; omega, by dsimp only; show M 96 l = M 96 l + 0; omega⟩, fun _ _ _ _ => rfl, fun _ _ => ⟨rfl, rfl⟩, fun k hk => by dsimp only at hk; omega⟩))))))
  · rcases o with o | o
    · exact z.elim
    · exact b_Ws z
  · intro ⟨x, y, i, Q⟩ ⟨g1, ⟨g2, g3⟩, g4, g5, g6⟩
    dsimp only at g1 g2 g3 g4 g5 g6 ⊢
    have q175 : Q 175 l = M 94 l := by rw [g4 175 l (by decide) (by decide), hN 175 l (by decide) (by decide) (by decide) (by decide) (by decide) (by decide)]; exact hn.2.2
    unfold F_X12_walk_s18
    rw [q175]
    refine b_Wg (by omega) (b_Wf (by omega) (b_Wg (by omega) (b_Wl (b_Wg (by omega) (b_Wl ?_)))))
    generalize hP : b_up (b_up Q 180 (v + i) x) 181 (v + i) y = P
    have p1 : ∀ c j, c ≠ 180 → c ≠ 181 → P c j = N c j := fun c j h1 h2 => by subst hP; rw [b_upc h2, b_upc h1]; exact g4 c j h1 h2
    have p2 : ∀ j, P 180 j = (if j = v + i then x else Q 180 j) ∧ P 181 j = (if j = v + i then y else Q 181 j) := fun j => by subst hP; rw [b_upc (show (180 : Nat) ≠ 181 by decide), b_upJ, b_upJ, b_upc (show (181 : Nat) ≠ 180 by decide)]; exact ⟨rfl, rfl⟩
    clear hP
    have p3 : ∀ k : Nat, (k : Int) < i + 1 → P 180 (v + k) = gX M l k ∧ P 181 (v + k) = gY M l k := by
      intro k hk
      rw [(p2 (v + k)).1, (p2 (v + k)).2]
      by_cases e : (k : Int) = i
      · rw [if_pos (by omega), if_pos (by omega), g2, g3, show k = i.toNat by omega]
        exact ⟨rfl, rfl⟩
      · rw [if_neg (by omega), if_neg (by omega)]
        exact g6 k (by omega)
    have p4 : ∀ j, ¬ (v ≤ j ∧ j < v + (i + 1)) → P 180 j = N 180 j ∧ P 181 j = N 181 j := by
      intro j hj
      rw [(p2 j).1, (p2 j).2, if_neg (by omega), if_neg (by omega)]
      exact g5 j (by omega)
    have r175 : P 175 l = M 94 l := by rw [p1 175 l (by decide) (by decide), ← g4 175 l (by decide) (by decide)]; exact q175
    rw [r175]
    refine b_Wg (by omega) (b_Wi (fun a => b_Ws ⟨p1, fun j hj => p4 j (by omega), fun k hk => p3 k (by omega)⟩) (fun a => b_Wg (by omega) (b_Wl ?_)))
    have w := (hL.2.2 i (by omega) (by omega)).2.1
    have f := hf i (by omega) (by omega)
    have e178 : P 178 (12 * l + i) = M 178 (12 * l + i) := by rw [p1 178 _ (by decide) (by decide), hN 178 _ (by decide) (by decide) (by decide) (by decide) (by decide) (by decide)]
    have e179 : P 179 (12 * l + i) = M 179 (12 * l + i) := by rw [p1 179 _ (by decide) (by decide), hN 179 _ (by decide) (by decide) (by decide) (by decide) (by decide) (by decide)]
    have xs := gX_s (M := M) (l := l) (k := i.toNat)
    have ys := gY_s (M := M) (l := l) (k := i.toNat)
    rw [show ((i.toNat : Nat) : Int) = i by omega] at xs ys
    have bd := gXY_b hL hc hf c0 c1 i.toNat (by omega)
    have bd2 := gXY_b hL hc hf c0 c1 (i.toNat + 1) (by omega)
    rw [e178, e179]
    generalize hw : M 178 (12 * l + i) = wy at *
    generalize hfe : M 179 (12 * l + i) = fe at *
    have b163 : ∀ nx dy : Int, nx = gX M l (i.toNat + 1) → gY M l (i.toNat + 1) = gY M l i.toNat + dy → b_wp (F_X12_walk_b163 l v nx i y dy P) (Sum.elim (fun s2 : Int × Int × Int × bM => ((0 ≤ s2.2.2.1 ∧ s2.2.2.1 ≤ M 94 l) ∧ (s2.1 = gX M l s2.2.2.1.toNat ∧ s2.2.1 = gY M l s2.2.2.1.toNat) ∧ (∀ c j, c ≠ 180 → c ≠ 181 → s2.2.2.2 c j = N c j) ∧ (∀ j, ¬ (v ≤ j ∧ j < v + s2.2.2.1) → s2.2.2.2 180 j = N 180 j ∧ s2.2.2.2 181 j = N 181 j) ∧ ∀ k : Nat, (k : Int) < s2.2.2.1 → s2.2.2.2 180 (v + k) = gX M l k ∧ s2.2.2.2 181 (v + k) = gY M l k) ∧ (M 94 l - s2.2.2.1).toNat < (M 94 l - i).toNat) (Sum.elim (fun _ : bM => False) (fun O : bM => (∀ c j, c ≠ 180 → c ≠ 181 → O c j = N c j) ∧ (∀ j, ¬ (v ≤ j ∧ j ≤ v + M 94 l) → O 180 j = N 180 j ∧ O 181 j = N 181 j) ∧ ∀ k : Nat, (k : Int) ≤ M 94 l → O 180 (v + k) = gX M l k ∧ O 181 (v + k) = gY M l k))) := by
      intro nx dy h1 h2
      unfold F_X12_walk_b163
      refine b_Wg (by omega) (b_Ws ⟨⟨by dsimp only; omega, ⟨?_, ?_⟩, p1, p4, p3⟩, by dsimp only; omega⟩)
      · dsimp only
        rw [h1, show (i + 1).toNat = i.toNat + 1 by omega]
      · dsimp only
        rw [g3, ← h2, show (i + 1).toNat = i.toNat + 1 by omega]
    have b116 : ∀ dx : Int, gX M l (i.toNat + 1) = gX M l i.toNat + dx → b_wp (F_X12_walk_b116 l v y i (12 * l + i) x dx P) (Sum.elim (fun s2 : Int × Int × Int × bM => ((0 ≤ s2.2.2.1 ∧ s2.2.2.1 ≤ M 94 l) ∧ (s2.1 = gX M l s2.2.2.1.toNat ∧ s2.2.1 = gY M l s2.2.2.1.toNat) ∧ (∀ c j, c ≠ 180 → c ≠ 181 → s2.2.2.2 c j = N c j) ∧ (∀ j, ¬ (v ≤ j ∧ j < v + s2.2.2.1) → s2.2.2.2 180 j = N 180 j ∧ s2.2.2.2 181 j = N 181 j) ∧ ∀ k : Nat, (k : Int) < s2.2.2.1 → s2.2.2.2 180 (v + k) = gX M l k ∧ s2.2.2.2 181 (v + k) = gY M l k) ∧ (M 94 l - s2.2.2.1).toNat < (M 94 l - i).toNat) (Sum.elim (fun _ : bM => False) (fun O : bM => (∀ c j, c ≠ 180 → c ≠ 181 → O c j = N c j) ∧ (∀ j, ¬ (v ≤ j ∧ j ≤ v + M 94 l) → O 180 j = N 180 j ∧ O 181 j = N 181 j) ∧ ∀ k : Nat, (k : Int) ≤ M 94 l → O 180 (v + k) = gX M l k ∧ O 181 (v + k) = gY M l k))) := by
      intro dx hx
      unfold F_X12_walk_b116
      rw [e178, e179]
      refine b_Wg (by omega) (b_Wi (fun z => b_Wg (by omega) (b163 _ _ ?_ ?_)) (fun z => b_Wg (by omega) (b_Wi (fun z2 => b_Wg (by omega) (b163 _ _ ?_ ?_)) (fun z2 => b163 _ _ ?_ ?_))))
      · rw [g2, hx]
      · rw [ys, if_pos z]
      · rw [g2, hx]
      · rw [ys, if_neg z, if_pos z2]
      · rw [g2, hx]
      · rw [ys, if_neg z, if_neg z2]
    refine b_Wg (by omega) (b_Wi (fun z => b_Wg (by omega) (b116 _ ?_)) (fun z => b_Wg (by omega) (b_Wi (fun z2 => b_Wg (by omega) (b116 _ ?_)) (fun z2 => b116 _ ?_))))
    · rw [xs, if_pos z]
    · rw [xs, if_neg z, if_pos z2]
    · rw [xs, if_neg z, if_neg z2]
theorem e_lesser {a b : Int} {M : bM} : F_X12_lesser a b M = some (min a b) := by
  refine b_eqn ?_
  unfold F_X12_lesser
  exact b_Wi (fun z => b_Ws (by omega)) (fun z => b_Ws (by omega))
theorem e_greater {a b : Int} {M : bM} : F_X12_greater a b M = some (max a b) := by
  refine b_eqn ?_
  unfold F_X12_greater
  exact b_Wi (fun z => b_Ws (by omega)) (fun z => b_Ws (by omega))
theorem t_meetR {M N : bM} {l v i k : Int} (h : Pg M l) (hv : v = 0 ∨ v = 13) (hT : ∀ k : Nat, (k : Int) ≤ M 94 l → N 180 (v + k) = gX M l k ∧ N 181 (v + k) = gY M l k) (hi : 0 ≤ i ∧ i < M 94 l) (hk : 0 ≤ k ∧ k < M 94 l) : b_wp (F_X12_isMeeting (v + i) (v + k) N) (fun x => (x = 0 ∧ ¬ gMt (gX M l) (gY M l) i.toNat k.toNat) ∨ (x = 1 ∧ gMt (gX M l) (gY M l) i.toNat k.toNat)) := by
  have hn := h.1.2.1
  have t1 := hT i.toNat (by omega)
  have t2 := hT (i.toNat + 1) (by omega)
  have t3 := hT k.toNat (by omega)
  have t4 := hT (k.toNat + 1) (by omega)
  rw [show v + ((i.toNat : Nat) : Int) = v + i by omega] at t1
  rw [show v + ((i.toNat + 1 : Nat) : Int) = v + i + 1 by omega] at t2
  rw [show v + ((k.toNat : Nat) : Int) = v + k by omega] at t3
  rw [show v + ((k.toNat + 1 : Nat) : Int) = v + k + 1 by omega] at t4
  unfold F_X12_isMeeting F_X12_isMeeting_b82 gMt
  rw [t1.1, t1.2, t2.1, t2.2, t3.1, t3.2, t4.1, t4.2]
  refine b_Wg (by omega) (b_We e_lesser (b_Wg (by omega) (b_We e_lesser (b_We e_greater (b_Wg (by omega) (b_We e_greater (b_Wg (by omega) (b_We e_greater (b_We e_lesser ?_)))))))))
  refine b_Wi (fun a => b_Wt rfl (b_Ws (Or.inl ⟨rfl, fun z => by omega⟩))) (fun a => b_Wf (by decide) (b_Wg (by omega) (b_We e_lesser (b_Wg (by omega) (b_We e_lesser (b_We e_greater (b_Wg (by omega) (b_We e_greater (b_Wg (by omega) (b_We e_greater (b_We e_lesser ?_)))))))))))
  exact b_Wi (fun b => b_Ws (Or.inl ⟨rfl, fun z => by omega⟩)) (fun b => b_Ws (Or.inr ⟨rfl, by omega, by omega⟩))
theorem gFw_e {n i : Nat} (h : i < n) : ((i : Int) + 1) % (n : Int) = (gFw n i : Nat) := by
  unfold gFw
  by_cases e : i + 1 < n
  · rw [if_pos e, Int.emod_eq_of_lt (by omega) (by omega)]
    omega
  · rw [if_neg e, show (i : Int) + 1 = n by omega, Int.emod_self]
    rfl
theorem t_isArea {M N : bM} {l v : Int} (hL : Ln M l) (hc : (0 ≤ M 95 l ∧ M 95 l ≤ 99) ∧ 0 ≤ M 96 l ∧ M 96 l ≤ 99) (hb : Bd M l) (he : M 176 l = M 95 l ∧ M 177 l = M 96 l) (hN : Nr M N) (hv : v = 0 ∨ v = 13) : b_wp (F_X12_isArea l v N) (fun o => (∀ c j, c ≠ 180 → c ≠ 181 → o.2 c j = N c j) ∧ (∀ j, ¬ (v ≤ j ∧ j ≤ v + M 94 l) → o.2 180 j = N 180 j ∧ o.2 181 j = N 181 j) ∧ ((o.1 = 1 ∧ gE M l ∧ ∀ k : Nat, (k : Int) ≤ M 94 l → o.2 180 (v + k) = gX M l k ∧ o.2 181 (v + k) = gY M l k) ∨ (o.1 = 0 ∧ ¬ gE M l))) := by
  have hl := hL.1
  have hn := hL.2.1
  have lk : Lk2 M N l := by
    refine ⟨by rw [hN 175 l (by decide) (by decide) (by decide) (by decide) (by decide) (by decide)]; exact hn.2.2, fun i _ _ => ⟨hN 178 _ (by decide) (by decide) (by decide) (by decide) (by decide) (by decide), hN 179 _ (by decide) (by decide) (by decide) (by decide) (by decide) (by decide)⟩⟩
  unfold F_X12_isArea
  refine b_We (e_leads hL lk (w := 0) (by decide)) (b_Wi (fun c0 => b_We (e_leads hL lk (w := 1) (by decide)) (b_Wi (fun c1 => ?_) (fun c1 => b_Ws ⟨fun _ _ _ _ => rfl, fun _ _ => ⟨rfl, rfl⟩, Or.inr ⟨rfl, fun z => c1 z.2.1.2⟩⟩))) (fun c0 => b_Ws ⟨fun _ _ _ _ => rfl, fun _ _ => ⟨rfl, rfl⟩, Or.inr ⟨rfl, fun z => c0 z.2.1.1⟩⟩))
  have hP := Pg_of hL hc hb c0 c1
  refine b_Wb (b_wp_m (fun Q z => ?_) (t_walk hP he hN hv))
  obtain ⟨z1, z2, z3⟩ := z
  have q175 : Q 175 l = M 94 l := by rw [z1 175 l (by decide) (by decide)]; exact lk.1
  have q178 : ∀ j, Q 178 j = M 178 j := fun j => by rw [z1 178 _ (by decide) (by decide), hN 178 _ (by decide) (by decide) (by decide) (by decide) (by decide) (by decide)]
  rw [q175]
  refine b_Wg (by omega) (b_Wl ?_)
  generalize hnn : (M 94 l).toNat = n
  have hn2 : (n : Int) = M 94 l := by omega
  refine b_Wb (b_wp_m (fun o z => ?_) (b_loop_ind (P := Sum.elim (fun _ : Unit => ∀ i : Nat, i < n → gRw M l n i) (fun o : Int × bM => o = (0, Q) ∧ ∃ i : Nat, i < n ∧ ¬ gRw M l n i)) (I := fun v : Int => (0 ≤ v ∧ v ≤ M 94 l) ∧ ∀ i : Nat, (i : Int) < v → gRw M l n i) (fun v => (M 94 l - v).toNat) ?_ 0 ⟨by omega, fun i hi => by omega⟩))
  · rcases o with u | o
    · refine b_Winl ?_
      unfold F_X12_isArea_b133
      have zz : ∀ i : Nat, i < n → gRw M l n i := z
      refine b_Wi (fun a => b_Ws ⟨z1, z2, Or.inr ⟨rfl, fun y => ?_⟩⟩) (fun a => b_Ws ⟨z1, z2, Or.inl ⟨rfl, ⟨by omega, ⟨c0, c1⟩, fun i hi => ?_⟩, z3⟩⟩)
      · have := y.1
        omega
      · rw [hnn]
        exact zz i (by omega)
    · have zz : o = (0, Q) ∧ ∃ i : Nat, i < n ∧ ¬ gRw M l n i := z
      refine b_Ws ?_
      rw [zz.1]
      obtain ⟨i, i1, i2⟩ := zz.2
      refine ⟨z1, z2, Or.inr ⟨rfl, fun y => i2 ?_⟩⟩
      rw [← hnn]
      exact y.2.2 i (by omega)
  intro i ⟨g1, g2⟩
  unfold F_X12_isArea_s36
  refine b_Wi (fun b => b_Ws (fun i hi => g2 i (by omega))) (fun b => ?_)
  have fr := gFw_r (n := n) (i := i.toNat) (by omega)
  have vv : ((i.toNat : Nat) : Int) = i := by omega
  have fe := gFw_e (n := n) (i := i.toNat) (by omega)
  rw [vv, hn2] at fe
  have w1 := (hL.2.2 i (by omega) (by omega)).2.1
  have w2 := (hL.2.2 ((gFw n i.toNat : Nat) : Int) (by omega) (by omega)).2.1
  have er : i_rem (i + 1) (M 94 l) = (gFw n i.toNat : Nat) := by rw [i_rem_e (by omega) (by omega), fe]
  rw [er, q178, q178]
  refine b_Wg (by omega) ?_
  rw [i_rem_e (by omega) (by decide), i_rem_e (by omega) (by decide)]
  refine b_Wi (fun e => b_Ws ⟨rfl, i.toNat, by omega, fun y => ?_⟩) (fun e => b_Wg (by omega) ?_)
  · have := y.1
    rw [vv] at this
    exact this e
  refine b_Wb (b_wp_m (fun o z => ?_) (b_loop_ind (P := Sum.elim (fun _ : Unit => ∀ k : Nat, i.toNat + 2 ≤ k → k < n → (0 < i.toNat ∨ k + 1 < n) → ¬ gMt (gX M l) (gY M l) i.toNat k) (Sum.elim (fun _ : Int => False) (Sum.elim (fun _ : Unit => False) (fun o : Int × bM => o = (0, Q) ∧ ¬ gRw M l n i.toNat)))) (I := fun j : Int => i + 2 ≤ j ∧ ∀ k : Nat, i.toNat + 2 ≤ k → (k : Int) < j → k < n → (0 < i.toNat ∨ k + 1 < n) → ¬ gMt (gX M l) (gY M l) i.toNat k) (fun j => (M 94 l - j).toNat) ?_ (i + 2) ⟨by omega, fun k k1 k2 => by omega⟩))
  · rcases o with u | o | o | o
    · refine b_Winl ?_
      unfold F_X12_isArea_b127
      have zz : ∀ k : Nat, i.toNat + 2 ≤ k → k < n → (0 < i.toNat ∨ k + 1 < n) → ¬ gMt (gX M l) (gY M l) i.toNat k := z
      refine b_Wg (by omega) (b_Ws ⟨⟨by omega, fun k hk => ?_⟩, by omega⟩)
      by_cases ei : k = i.toNat
      · subst ei
        refine ⟨?_, zz⟩
        rw [vv]
        exact e
      · exact g2 k (by omega)
    · exact z.elim
    · exact z.elim
    · have zz : o = (0, Q) ∧ ¬ gRw M l n i.toNat := z
      exact b_Ws ⟨zz.1, i.toNat, by omega, zz.2⟩
  · intro j ⟨j1, j2⟩
    have b104 : j < M 94 l → (0 < i.toNat ∨ j.toNat + 1 < n) → b_wp (F_X12_isArea_b104 l v (M 94 l) i j Q) (Sum.elim (fun j3 : Int => (i + 2 ≤ j3 ∧ ∀ k : Nat, i.toNat + 2 ≤ k → (k : Int) < j3 → k < n → (0 < i.toNat ∨ k + 1 < n) → ¬ gMt (gX M l) (gY M l) i.toNat k) ∧ (M 94 l - j3).toNat < (M 94 l - j).toNat) (Sum.elim (fun _ : Unit => ∀ k : Nat, i.toNat + 2 ≤ k → k < n → (0 < i.toNat ∨ k + 1 < n) → ¬ gMt (gX M l) (gY M l) i.toNat k) (Sum.elim (fun _ : Int => False) (Sum.elim (fun _ : Unit => False) (fun o : Int × bM => o = (0, Q) ∧ ¬ gRw M l n i.toNat))))) := by
      intro j3 j4
      unfold F_X12_isArea_b104
      refine b_Wg (by omega) (b_Wb (b_wp_m (fun x y => ?_) (t_meetR hP hv z3 (i := i) (k := j) (by omega) (by omega))))
      rcases y with y | y
      · refine b_Wt y.1 (b_Wg (by omega) (b_Ws ⟨⟨by omega, fun k k1 k2 k3 k4 => ?_⟩, by omega⟩))
        by_cases ek : k = j.toNat
        · rw [ek]; exact y.2
        · exact j2 k k1 (by omega) k3 k4
      · exact b_Wf (by omega) (b_Ws ⟨rfl, fun r => r.2 j.toNat (by omega) (by omega) j4 y.2⟩)
    unfold F_X12_isArea_s85
    refine b_Wi (fun c => b_Ws (fun k k1 k2 k3 => j2 k k1 (by omega) k2 k3)) (fun c => b_Wi (fun d => b_Wg (by omega) (b_Wi (fun e => b_Wg (by omega) (b_Ws ⟨⟨by omega, fun k k1 k2 k3 k4 => ?_⟩, by omega⟩)) (fun e => b104 (by omega) (by omega)))) (fun d => b104 (by omega) (by omega)))
    by_cases ek : k = j.toNat
    · omega
    · exact j2 k k1 (by omega) k3 k4
