/-! corners -/
def gX (M : bM) (l : Int) (k : Nat) : Int := M 95 l + x_ld M l 1 k
def gY (M : bM) (l : Int) (k : Nat) : Int := M 96 l + x_ld M l 0 k
def R_cor (M : bM) : Prop := ∀ l, 0 ≤ l → l < 60 → (0 ≤ M 95 l ∧ M 95 l ≤ 99) ∧ 0 ≤ M 96 l ∧ M 96 l ≤ 99
def S_cor : bW := [(95, none), (96, none)]
theorem R_cor_k {M N : bM} (h : ∀ c i, b_ins S_cor c i = true → N c i = M c i) (hR : R_cor M) : R_cor N := fun l h0 h1 => by rw [h 95 l rfl, h 96 l rfl]; exact hR l h0 h1
theorem gX_s {M : bM} {l : Int} {k : Nat} : gX M l (k + 1) = gX M l k + (if M 178 (12 * l + k) = 1 then M 179 (12 * l + k) else if M 178 (12 * l + k) = 3 then -M 179 (12 * l + k) else 0) := by
  show M 95 l + (x_ld M l 1 k + _) = M 95 l + x_ld M l 1 k + _
  rw [show (1 : Int) + 2 = 3 from rfl]
  omega
theorem gY_s {M : bM} {l : Int} {k : Nat} : gY M l (k + 1) = gY M l k + (if M 178 (12 * l + k) = 0 then M 179 (12 * l + k) else if M 178 (12 * l + k) = 2 then -M 179 (12 * l + k) else 0) := by
  show M 96 l + (x_ld M l 0 k + _) = M 96 l + x_ld M l 0 k + _
  rw [show (0 : Int) + 2 = 2 from rfl]
  omega
/-- LOT l has BOUNDS that close -/
def Pg (M : bM) (l : Int) : Prop := Ln M l ∧ ((0 ≤ M 95 l ∧ M 95 l ≤ 99) ∧ 0 ≤ M 96 l ∧ M 96 l ≤ 99) ∧ (∀ i, 0 ≤ i → i < M 94 l → 1 ≤ M 179 (12 * l + i) ∧ M 179 (12 * l + i) ≤ 1500) ∧ x_ld M l 0 (M 94 l).toNat = 0 ∧ x_ld M l 1 (M 94 l).toNat = 0
theorem x_ld_b {M : bM} {l w : Int} (hf : ∀ i, 0 ≤ i → i < M 94 l → 1 ≤ M 179 (12 * l + i) ∧ M 179 (12 * l + i) ≤ 1500) : ∀ m k : Nat, ((k + m : Nat) : Int) ≤ M 94 l → -1500 * (m : Int) ≤ x_ld M l w (k + m) - x_ld M l w k ∧ x_ld M l w (k + m) - x_ld M l w k ≤ 1500 * m := by
  intro m
  induction m with
  | zero => intro k _; rw [show k + 0 = k by omega]; omega
  | succ m ih =>
    intro k hk
    have h1 := ih k (by omega)
    have h2 := hf ((k + m : Nat) : Int) (by omega) (by omega)
    rw [show k + (m + 1) = k + m + 1 by omega]
    have e : x_ld M l w (k + m + 1) = x_ld M l w (k + m) + (if M 178 (12 * l + ((k + m : Nat) : Int)) = w then M 179 (12 * l + ((k + m : Nat) : Int)) else if M 178 (12 * l + ((k + m : Nat) : Int)) = w + 2 then -M 179 (12 * l + ((k + m : Nat) : Int)) else 0) := rfl
    rw [e]
    split
    · omega
    · split <;> omega
theorem gXY_b {M : bM} {l : Int} (hL : Ln M l) (hc : (0 ≤ M 95 l ∧ M 95 l ≤ 99) ∧ 0 ≤ M 96 l ∧ M 96 l ≤ 99) (hf : ∀ i, 0 ≤ i → i < M 94 l → 1 ≤ M 179 (12 * l + i) ∧ M 179 (12 * l + i) ≤ 1500) (c0 : x_ld M l 0 (M 94 l).toNat = 0) (c1 : x_ld M l 1 (M 94 l).toNat = 0) : ∀ k : Nat, (k : Int) ≤ M 94 l → (-9000 ≤ gX M l k ∧ gX M l k ≤ 9099) ∧ -9000 ≤ gY M l k ∧ gY M l k ≤ 9099 := by
  intro k hk
  have hn := hL.2.1
  have a1 := x_ld_b (w := 1) hf k 0 (by omega)
  have a0 := x_ld_b (w := 0) hf k 0 (by omega)
  have b1 := x_ld_b (w := 1) hf ((M 94 l).toNat - k) k (by omega)
  have b0 := x_ld_b (w := 0) hf ((M 94 l).toNat - k) k (by omega)
  rw [show 0 + k = k by omega] at a1 a0
  rw [show k + ((M 94 l).toNat - k) = (M 94 l).toNat by omega] at b1 b0
  rw [c1] at b1
  rw [c0] at b0
  have z1 : x_ld M l 1 0 = 0 := rfl
  have z0 : x_ld M l 0 0 = 0 := rfl
  unfold gX gY
  omega
/-- memory N is M but for the class's corners -/
def Nf (M N : bM) : Prop := ∀ c j, c ≠ 100 → c ≠ 101 → c ≠ 102 → c ≠ 103 → N c j = M c j
theorem Ln_f {M N : bM} {l : Int} (h : Ln M l) (hN : Nf M N) : Ln N l := by
  unfold Ln at h ⊢
  rw [hN 94 l (by decide) (by decide) (by decide) (by decide), hN 175 l (by decide) (by decide) (by decide) (by decide), show N 97 = M 97 from funext fun i => hN 97 i (by decide) (by decide) (by decide) (by decide), show N 178 = M 178 from funext fun i => hN 178 i (by decide) (by decide) (by decide) (by decide), show N 179 = M 179 from funext fun i => hN 179 i (by decide) (by decide) (by decide) (by decide)]
  exact h
/-- class: corners of LOT l -/
theorem t_tr100 {M N : bM} {l : Int} (h : Pg M l) (hN : Nf M N) : b_wp (F_X5_trace_100_101 l N) (fun O => (∀ c j, c ≠ 100 → c ≠ 101 → O c j = N c j) ∧ ∀ k : Nat, (k : Int) ≤ M 94 l → O 100 k = gX M l k ∧ O 101 k = gY M l k) := by
  obtain ⟨hL, hc, hf, c0, c1⟩ := h
  have hl := hL.1
  have hn := hL.2.1
  have LN : ∀ O : bM, (∀ c j, c ≠ 100 → c ≠ 101 → O c j = N c j) → Nf M O := fun O q => fun c j a1 a2 a3 a4 => by rw [q c j a1 a2]; exact hN c j a1 a2 a3 a4
  unfold F_X5_trace_100_101
  rw [hN 95 l (by decide) (by decide) (by decide) (by decide)]
  refine b_Wg (by omega) (b_Wl ?_)
  rw [b_upc (show (96 : Nat) ≠ 100 by decide), hN 96 l (by decide) (by decide) (by decide) (by decide)]
  refine b_Wg (by omega) (b_Wl (b_Wb (b_wp_m (fun O z => ?_) (b_loop_ind (P := fun O : bM => (∀ c j, c ≠ 100 → c ≠ 101 → O c j = N c j) ∧ ∀ k : Nat, (k : Int) ≤ M 94 l → O 100 k = gX M l k ∧ O 101 k = gY M l k) (I := fun s : Int × bM => (0 ≤ s.1 ∧ s.1 ≤ M 94 l) ∧ (∀ c j, c ≠ 100 → c ≠ 101 → s.2 c j = N c j) ∧ ∀ k : Nat, (k : Int) ≤ s.1 → s.2 100 k = gX M l k ∧ s.2 101 k = gY M l k) (fun s => (M 94 l - s.1).toNat) ?_ (0, b_up (b_up N 100 0 (M 95 l)) 101 0 (M 96 l)) ⟨by dsimp only; omega, fun c j h1 h2 => by dsimp only; rw [b_upc h2, b_upc h1], fun k hk => ?_⟩))))
  · unfold F_X5_trace_100_101_b132
    exact b_Ws z
  · intro ⟨i, Q⟩ ⟨g1, g2, g3⟩
    dsimp only at g1 g2 g3 ⊢
    have nQ := LN Q g2
    have lQ := Ln_f hL nQ
    have q94 : Q 94 l = M 94 l := nQ 94 l (by decide) (by decide) (by decide) (by decide)
    unfold F_X5_trace_100_101_s21
    rw [q94]
    refine b_Wg (by omega) (b_Wi (fun a => b_Ws ⟨g2, fun k hk => g3 k (by omega)⟩) (fun a => b_Wf (by omega) ?_))
    have e1 := e_wayOf lQ (i := i) (by omega)
    have e2 := e_feetOf lQ (i := i) (by omega)
    rw [nQ 178 _ (by decide) (by decide) (by decide) (by decide)] at e1
    rw [nQ 179 _ (by decide) (by decide) (by decide) (by decide)] at e2
    refine b_We e1 (b_We e2 (b_Wg (by omega) ?_))
    have w := (hL.2.2 i (by omega) (by omega)).2.1
    have f := hf i (by omega) (by omega)
    have xs := gX_s (M := M) (l := l) (k := i.toNat)
    have ys := gY_s (M := M) (l := l) (k := i.toNat)
    rw [show ((i.toNat : Nat) : Int) = i by omega] at xs ys
    have gi := g3 i.toNat (by omega)
    rw [show ((i.toNat : Nat) : Int) = i by omega] at gi
    have bd := gXY_b hL hc hf c0 c1 i.toNat (by omega)
    have bd2 := gXY_b hL hc hf c0 c1 (i.toNat + 1) (by omega)
    generalize hw : M 178 (12 * l + i) = wy at *
    generalize hfe : M 179 (12 * l + i) = fe at *
    have b124 : ∀ (P : bM) (dy : Int), (∀ c j, c ≠ 100 → c ≠ 101 → P c j = N c j) → (∀ k : Nat, (k : Int) ≤ i → P 100 k = gX M l k ∧ P 101 k = gY M l k) → P 100 (i + 1) = gX M l (i.toNat + 1) → gY M l (i.toNat + 1) = gY M l i.toNat + dy → b_wp (F_X5_trace_100_101_b124 l i (i + 1) (P 101 i) dy P) (Sum.elim (fun s2 : Int × bM => ((0 ≤ s2.1 ∧ s2.1 ≤ M 94 l) ∧ (∀ c j, c ≠ 100 → c ≠ 101 → s2.2 c j = N c j) ∧ ∀ k : Nat, (k : Int) ≤ s2.1 → s2.2 100 k = gX M l k ∧ s2.2 101 k = gY M l k) ∧ (M 94 l - s2.1).toNat < (M 94 l - i).toNat) (fun O : bM => (∀ c j, c ≠ 100 → c ≠ 101 → O c j = N c j) ∧ ∀ k : Nat, (k : Int) ≤ M 94 l → O 100 k = gX M l k ∧ O 101 k = gY M l k)) := by
      intro P dy p1 p2 p3 p4
      have pi := (p2 i.toNat (by omega)).2
      rw [show ((i.toNat : Nat) : Int) = i by omega] at pi
      unfold F_X5_trace_100_101_b124
      rw [pi]
      refine b_Wg (by omega) (b_Wl (b_Wg (by omega) (b_Ws ⟨⟨by dsimp only; omega, fun c j h1 h2 => ?_, fun k hk => ?_⟩, by dsimp only; omega⟩)))
      · dsimp only; rw [b_upc h2]; exact p1 c j h1 h2
      · dsimp only at hk ⊢
        rw [b_upc (show (100 : Nat) ≠ 101 by decide)]
        by_cases e : (k : Int) = i + 1
        · rw [e, b_ups, p3, show k = i.toNat + 1 by omega]
          exact ⟨rfl, p4.symm⟩
        · rw [b_upi e]
          exact p2 k (by omega)
    have b90 : ∀ dx : Int, gX M l (i.toNat + 1) = gX M l i.toNat + dx → b_wp (F_X5_trace_100_101_b90 l i wy fe (i + 1) (Q 100 i) dx Q) (Sum.elim (fun s2 : Int × bM => ((0 ≤ s2.1 ∧ s2.1 ≤ M 94 l) ∧ (∀ c j, c ≠ 100 → c ≠ 101 → s2.2 c j = N c j) ∧ ∀ k : Nat, (k : Int) ≤ s2.1 → s2.2 100 k = gX M l k ∧ s2.2 101 k = gY M l k) ∧ (M 94 l - s2.1).toNat < (M 94 l - i).toNat) (fun O : bM => (∀ c j, c ≠ 100 → c ≠ 101 → O c j = N c j) ∧ ∀ k : Nat, (k : Int) ≤ M 94 l → O 100 k = gX M l k ∧ O 101 k = gY M l k)) := by
      intro dx hx
      unfold F_X5_trace_100_101_b90
      rw [gi.1]
      refine b_Wg (by omega) (b_Wl ?_)
      generalize hP : b_up Q 100 (i + 1) (gX M l i.toNat + dx) = P
      have p1 : ∀ c j, c ≠ 100 → c ≠ 101 → P c j = N c j := fun c j h1 h2 => by subst hP; rw [b_upc h1]; exact g2 c j h1 h2
      have p2 : ∀ k : Nat, (k : Int) ≤ i → P 100 k = gX M l k ∧ P 101 k = gY M l k := fun k hk => by subst hP; rw [b_upi (by omega), b_upc (by decide)]; exact g3 k hk
      have p3 : P 100 (i + 1) = gX M l (i.toNat + 1) := by subst hP; rw [b_ups, hx]
      clear hP
      refine b_Wg (by omega) (b_Wi (fun z => b124 P _ p1 p2 p3 ?_) (fun z => b_Wi (fun z2 => b_Wg (by omega) (b124 P _ p1 p2 p3 ?_)) (fun z2 => b124 P _ p1 p2 p3 ?_)))
      · rw [ys, if_pos z]
      · rw [ys, if_neg z, if_pos z2]
      · rw [ys, if_neg z, if_neg z2]
    refine b_Wi (fun z => b90 _ ?_) (fun z => b_Wi (fun z2 => b_Wg (by omega) (b90 _ ?_)) (fun z2 => b90 _ ?_))
    · rw [xs, if_pos z]
    · rw [xs, if_neg z, if_pos z2]
    · rw [xs, if_neg z, if_neg z2]
  · dsimp only at hk ⊢
    have k0 : k = 0 := by omega
    subst k0
    rw [b_upc (show (100 : Nat) ≠ 101 by decide)]
    show b_up N 100 0 (M 95 l) 100 0 = M 95 l + 0 ∧ b_up (b_up N 100 0 (M 95 l)) 101 0 (M 96 l) 101 0 = M 96 l + 0
    rw [b_ups, b_ups]
    omega
/-- class: corners of the other LOT -/
theorem t_tr102 {M N : bM} {l : Int} (h : Pg M l) (hN : Nf M N) : b_wp (F_X5_trace_102_103 l N) (fun O => (∀ c j, c ≠ 102 → c ≠ 103 → O c j = N c j) ∧ ∀ k : Nat, (k : Int) ≤ M 94 l → O 102 k = gX M l k ∧ O 103 k = gY M l k) := by
  obtain ⟨hL, hc, hf, c0, c1⟩ := h
  have hl := hL.1
  have hn := hL.2.1
  have LN : ∀ O : bM, (∀ c j, c ≠ 102 → c ≠ 103 → O c j = N c j) → Nf M O := fun O q => fun c j a1 a2 a3 a4 => by rw [q c j a3 a4]; exact hN c j a1 a2 a3 a4
  unfold F_X5_trace_102_103
  rw [hN 95 l (by decide) (by decide) (by decide) (by decide)]
  refine b_Wg (by omega) (b_Wl ?_)
  rw [b_upc (show (96 : Nat) ≠ 102 by decide), hN 96 l (by decide) (by decide) (by decide) (by decide)]
  refine b_Wg (by omega) (b_Wl (b_Wb (b_wp_m (fun O z => ?_) (b_loop_ind (P := fun O : bM => (∀ c j, c ≠ 102 → c ≠ 103 → O c j = N c j) ∧ ∀ k : Nat, (k : Int) ≤ M 94 l → O 102 k = gX M l k ∧ O 103 k = gY M l k) (I := fun s : Int × bM => (0 ≤ s.1 ∧ s.1 ≤ M 94 l) ∧ (∀ c j, c ≠ 102 → c ≠ 103 → s.2 c j = N c j) ∧ ∀ k : Nat, (k : Int) ≤ s.1 → s.2 102 k = gX M l k ∧ s.2 103 k = gY M l k) (fun s => (M 94 l - s.1).toNat) ?_ (0, b_up (b_up N 102 0 (M 95 l)) 103 0 (M 96 l)) ⟨by dsimp only; omega, fun c j h1 h2 => by dsimp only; rw [b_upc h2, b_upc h1], fun k hk => ?_⟩))))
  · unfold F_X5_trace_102_103_b132
    exact b_Ws z
  · intro ⟨i, Q⟩ ⟨g1, g2, g3⟩
    dsimp only at g1 g2 g3 ⊢
    have nQ := LN Q g2
    have lQ := Ln_f hL nQ
    have q94 : Q 94 l = M 94 l := nQ 94 l (by decide) (by decide) (by decide) (by decide)
    unfold F_X5_trace_102_103_s21
    rw [q94]
    refine b_Wg (by omega) (b_Wi (fun a => b_Ws ⟨g2, fun k hk => g3 k (by omega)⟩) (fun a => b_Wf (by omega) ?_))
    have e1 := e_wayOf lQ (i := i) (by omega)
    have e2 := e_feetOf lQ (i := i) (by omega)
    rw [nQ 178 _ (by decide) (by decide) (by decide) (by decide)] at e1
    rw [nQ 179 _ (by decide) (by decide) (by decide) (by decide)] at e2
    refine b_We e1 (b_We e2 (b_Wg (by omega) ?_))
    have w := (hL.2.2 i (by omega) (by omega)).2.1
    have f := hf i (by omega) (by omega)
    have xs := gX_s (M := M) (l := l) (k := i.toNat)
    have ys := gY_s (M := M) (l := l) (k := i.toNat)
    rw [show ((i.toNat : Nat) : Int) = i by omega] at xs ys
    have gi := g3 i.toNat (by omega)
    rw [show ((i.toNat : Nat) : Int) = i by omega] at gi
    have bd := gXY_b hL hc hf c0 c1 i.toNat (by omega)
    have bd2 := gXY_b hL hc hf c0 c1 (i.toNat + 1) (by omega)
    generalize hw : M 178 (12 * l + i) = wy at *
    generalize hfe : M 179 (12 * l + i) = fe at *
    have b124 : ∀ (P : bM) (dy : Int), (∀ c j, c ≠ 102 → c ≠ 103 → P c j = N c j) → (∀ k : Nat, (k : Int) ≤ i → P 102 k = gX M l k ∧ P 103 k = gY M l k) → P 102 (i + 1) = gX M l (i.toNat + 1) → gY M l (i.toNat + 1) = gY M l i.toNat + dy → b_wp (F_X5_trace_102_103_b124 l i (i + 1) (P 103 i) dy P) (Sum.elim (fun s2 : Int × bM => ((0 ≤ s2.1 ∧ s2.1 ≤ M 94 l) ∧ (∀ c j, c ≠ 102 → c ≠ 103 → s2.2 c j = N c j) ∧ ∀ k : Nat, (k : Int) ≤ s2.1 → s2.2 102 k = gX M l k ∧ s2.2 103 k = gY M l k) ∧ (M 94 l - s2.1).toNat < (M 94 l - i).toNat) (fun O : bM => (∀ c j, c ≠ 102 → c ≠ 103 → O c j = N c j) ∧ ∀ k : Nat, (k : Int) ≤ M 94 l → O 102 k = gX M l k ∧ O 103 k = gY M l k)) := by
      intro P dy p1 p2 p3 p4
      have pi := (p2 i.toNat (by omega)).2
      rw [show ((i.toNat : Nat) : Int) = i by omega] at pi
      unfold F_X5_trace_102_103_b124
      rw [pi]
      refine b_Wg (by omega) (b_Wl (b_Wg (by omega) (b_Ws ⟨⟨by dsimp only; omega, fun c j h1 h2 => ?_, fun k hk => ?_⟩, by dsimp only; omega⟩)))
      · dsimp only; rw [b_upc h2]; exact p1 c j h1 h2
      · dsimp only at hk ⊢
        rw [b_upc (show (102 : Nat) ≠ 103 by decide)]
        by_cases e : (k : Int) = i + 1
        · rw [e, b_ups, p3, show k = i.toNat + 1 by omega]
          exact ⟨rfl, p4.symm⟩
        · rw [b_upi e]
          exact p2 k (by omega)
    have b90 : ∀ dx : Int, gX M l (i.toNat + 1) = gX M l i.toNat + dx → b_wp (F_X5_trace_102_103_b90 l i wy fe (i + 1) (Q 102 i) dx Q) (Sum.elim (fun s2 : Int × bM => ((0 ≤ s2.1 ∧ s2.1 ≤ M 94 l) ∧ (∀ c j, c ≠ 102 → c ≠ 103 → s2.2 c j = N c j) ∧ ∀ k : Nat, (k : Int) ≤ s2.1 → s2.2 102 k = gX M l k ∧ s2.2 103 k = gY M l k) ∧ (M 94 l - s2.1).toNat < (M 94 l - i).toNat) (fun O : bM => (∀ c j, c ≠ 102 → c ≠ 103 → O c j = N c j) ∧ ∀ k : Nat, (k : Int) ≤ M 94 l → O 102 k = gX M l k ∧ O 103 k = gY M l k)) := by
      intro dx hx
      unfold F_X5_trace_102_103_b90
      rw [gi.1]
      refine b_Wg (by omega) (b_Wl ?_)
      generalize hP : b_up Q 102 (i + 1) (gX M l i.toNat + dx) = P
      have p1 : ∀ c j, c ≠ 102 → c ≠ 103 → P c j = N c j := fun c j h1 h2 => by subst hP; rw [b_upc h1]; exact g2 c j h1 h2
      have p2 : ∀ k : Nat, (k : Int) ≤ i → P 102 k = gX M l k ∧ P 103 k = gY M l k := fun k hk => by subst hP; rw [b_upi (by omega), b_upc (by decide)]; exact g3 k hk
      have p3 : P 102 (i + 1) = gX M l (i.toNat + 1) := by subst hP; rw [b_ups, hx]
      clear hP
      refine b_Wg (by omega) (b_Wi (fun z => b124 P _ p1 p2 p3 ?_) (fun z => b_Wi (fun z2 => b_Wg (by omega) (b124 P _ p1 p2 p3 ?_)) (fun z2 => b124 P _ p1 p2 p3 ?_)))
      · rw [ys, if_pos z]
      · rw [ys, if_neg z, if_pos z2]
      · rw [ys, if_neg z, if_neg z2]
    refine b_Wi (fun z => b90 _ ?_) (fun z => b_Wi (fun z2 => b_Wg (by omega) (b90 _ ?_)) (fun z2 => b90 _ ?_))
    · rw [xs, if_pos z]
    · rw [xs, if_neg z, if_pos z2]
    · rw [xs, if_neg z, if_neg z2]
  · dsimp only at hk ⊢
    have k0 : k = 0 := by omega
    subst k0
    rw [b_upc (show (102 : Nat) ≠ 103 by decide)]
    show b_up N 102 0 (M 95 l) 102 0 = M 95 l + 0 ∧ b_up (b_up N 102 0 (M 95 l)) 103 0 (M 96 l) 103 0 = M 96 l + 0
    rw [b_ups, b_ups]
    omega
/-! lines that meet -/
def gMt (X Y : Nat → Int) (i k : Nat) : Prop := max (min (X i) (X (i + 1))) (min (X k) (X (k + 1))) ≤ min (max (X i) (X (i + 1))) (max (X k) (X (k + 1))) ∧ max (min (Y i) (Y (i + 1))) (min (Y k) (Y (k + 1))) ≤ min (max (Y i) (Y (i + 1))) (max (Y k) (Y (k + 1)))
def gFw (n i : Nat) : Nat := if i + 1 < n then i + 1 else 0
def gRw (M : bM) (l : Int) (n i : Nat) : Prop := M 178 (12 * l + i) % 2 ≠ M 178 (12 * l + (gFw n i : Nat)) % 2 ∧ ∀ k : Nat, i + 2 ≤ k → k < n → (0 < i ∨ k + 1 < n) → ¬ gMt (gX M l) (gY M l) i k
/-- the BOUNDS of LOT l have an AREA -/
def gE (M : bM) (l : Int) : Prop := 4 ≤ M 94 l ∧ (x_ld M l 0 (M 94 l).toNat = 0 ∧ x_ld M l 1 (M 94 l).toNat = 0) ∧ ∀ i : Nat, (i : Int) < M 94 l → gRw M l (M 94 l).toNat i
theorem t_meet {M N : bM} {l i k : Int} (h : Pg M l) (hT : ∀ k : Nat, (k : Int) ≤ M 94 l → N 100 k = gX M l k ∧ N 101 k = gY M l k) (hi : 0 ≤ i ∧ i < M 94 l) (hk : 0 ≤ k ∧ k < M 94 l) : b_wp (F_X5_meet i k N) (fun x => (x = 0 ∧ ¬ gMt (gX M l) (gY M l) i.toNat k.toNat) ∨ (x = 1 ∧ gMt (gX M l) (gY M l) i.toNat k.toNat)) := by
  obtain ⟨hL, hc, hf, c0, c1⟩ := h
  have hn := hL.2.1
  have t1 := hT i.toNat (by omega)
  have t2 := hT (i.toNat + 1) (by omega)
  have t3 := hT k.toNat (by omega)
  have t4 := hT (k.toNat + 1) (by omega)
  rw [show ((i.toNat : Nat) : Int) = i by omega] at t1
  rw [show ((i.toNat + 1 : Nat) : Int) = i + 1 by omega] at t2
  rw [show ((k.toNat : Nat) : Int) = k by omega] at t3
  rw [show ((k.toNat + 1 : Nat) : Int) = k + 1 by omega] at t4
  have d1 := gXY_b hL hc hf c0 c1 i.toNat (by omega)
  have d2 := gXY_b hL hc hf c0 c1 (i.toNat + 1) (by omega)
  have d3 := gXY_b hL hc hf c0 c1 k.toNat (by omega)
  have d4 := gXY_b hL hc hf c0 c1 (k.toNat + 1) (by omega)
  unfold F_X5_meet F_X5_common gMt
  rw [t1.1, t1.2, t2.1, t2.2, t3.1, t3.2, t4.1, t4.2]
  generalize gX M l i.toNat = x1 at *
  generalize gX M l (i.toNat + 1) = x2 at *
  generalize gX M l k.toNat = x3 at *
  generalize gX M l (k.toNat + 1) = x4 at *
  generalize gY M l i.toNat = y1 at *
  generalize gY M l (i.toNat + 1) = y2 at *
  generalize gY M l k.toNat = y3 at *
  generalize gY M l (k.toNat + 1) = y4 at *
  clear t1 t2 t3 t4 hT hf hL hc c0 c1
  refine b_Wg (by omega) (b_Wb (b_Wg (by omega) (b_Ws ?_)))
  refine b_Wi (fun a => b_Ws (Or.inl ⟨rfl, by omega⟩)) (fun a => b_Wg (by omega) (b_Wb (b_Wg (by omega) (b_Ws ?_))))
  exact b_Wi (fun b => b_Ws (Or.inl ⟨rfl, by omega⟩)) (fun b => b_Ws (Or.inr ⟨rfl, by omega⟩))
