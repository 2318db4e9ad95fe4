/-- a line of way t that bears being made shorter by s -/
abbrev Lf (M : bM) (l t s i : Int) : Prop := M 178 (12 * l + i) = t ∧ s < M 179 (12 * l + i)
def z_op (t : Int) : Int := if t < 2 then t + 2 else t - 2
/-- the line to change -/
def Lc (M : bM) (l t s i : Int) : Prop := ((0 ≤ i ∧ i < M 94 l) ∧ Lf M l t s i ∧ ∀ j, 0 ≤ j → j < i → ¬ Lf M l t s j) ∨ ((∀ j, 0 ≤ j → j < M 94 l → ¬ Lf M l t s j) ∧ (((0 ≤ i ∧ i < M 94 l) ∧ M 178 (12 * l + i) = z_op t ∧ ∀ j, i < j → j < M 94 l → M 178 (12 * l + j) ≠ z_op t) ∨ (i = -1 ∧ ∀ j, 0 ≤ j → j < M 94 l → M 178 (12 * l + j) ≠ z_op t)))
theorem Lc_u {M : bM} {l t s i k : Int} (h : Lc M l t s i) (h2 : Lc M l t s k) : i = k := by
  rcases h with ⟨a1, a2, a3⟩ | ⟨a1, a2⟩
  · rcases h2 with ⟨b1, b2, b3⟩ | ⟨b1, _⟩
    · by_cases q : i < k
      · exact absurd a2 (b3 i a1.1 q)
      · by_cases q2 : k < i
        · exact absurd b2 (a3 k b1.1 q2)
        · omega
    · exact absurd a2 (b1 i a1.1 a1.2)
  · rcases h2 with ⟨b1, b2, b3⟩ | ⟨b1, b2⟩
    · exact absurd b2 (a1 k b1.1 b1.2)
    · rcases a2 with ⟨c1, c2, c3⟩ | ⟨c1, c2⟩
      · rcases b2 with ⟨d1, d2, d3⟩ | ⟨d1, d2⟩
        · by_cases q : i < k
          · exact absurd d2 (c3 k q d1.2)
          · by_cases q2 : k < i
            · exact absurd c2 (d3 i q2 c1.2)
            · omega
        · exact absurd c2 (d2 i c1.1 c1.2)
      · rcases b2 with ⟨d1, d2, d3⟩ | ⟨d1, d2⟩
        · exact absurd d2 (c2 k d1.1 d1.2)
        · omega
theorem Lc_r {M : bM} {l t s i : Int} (h : Lc M l t s i) : i = -1 ∨ ((0 ≤ i ∧ i < M 94 l) ∧ ((M 178 (12 * l + i) = t ∧ s < M 179 (12 * l + i)) ∨ M 178 (12 * l + i) = z_op t)) := by
  rcases h with ⟨a1, a2, _⟩ | ⟨_, ⟨a1, a2, _⟩ | a2⟩
  · exact Or.inr ⟨a1, Or.inl a2⟩
  · exact Or.inr ⟨a1, Or.inr a2⟩
  · exact Or.inl a2.1
/-- which way is too long -/
def z_tl (w b : Int) : Int := if b ≤ 0 then w + 2 else w
theorem t_lineC {M : bM} {l w b : Int} (h : Ln M l) (hw : 0 ≤ w ∧ w ≤ 1) (hb : -2000000 ≤ b ∧ b ≤ 2000000) : b_wp (F_X5_lineToChange l w b M) (fun i => Lc M l (z_tl w b) (max b (-b)) i) := by
  have h1 := h.1
  have h2 := h.2.1
  have go : ∀ t, (t = w ∨ t = w + 2) → b_wp (F_X5_lineToChange_b11 l w b t M) (fun i => Lc M l t (max b (-b)) i) := by
    intro t ht
    unfold F_X5_lineToChange_b11
    refine b_Wg (by omega) (b_Wl ?_)
    generalize max b (-b) = s
    refine b_Wb (b_wp_m (fun o z => ?_) (b_loop_ind (P := Sum.elim (fun la : Int => Lc M l t s la) (fun i : Int => Lc M l t s i)) (I := fun x : Int × Int => (0 ≤ x.2 ∧ x.2 ≤ M 94 l) ∧ (∀ j, 0 ≤ j → j < x.2 → ¬ Lf M l t s j) ∧ (((0 ≤ x.1 ∧ x.1 < x.2) ∧ M 178 (12 * l + x.1) = z_op t ∧ ∀ j, x.1 < j → j < x.2 → M 178 (12 * l + j) ≠ z_op t) ∨ (x.1 = -1 ∧ ∀ j, 0 ≤ j → j < x.2 → M 178 (12 * l + j) ≠ z_op t))) (fun x => (M 94 l - x.2).toNat) ?_ (-1, 0) ⟨by dsimp only; omega, fun j j0 j1 => by dsimp only at j1; omega, Or.inr ⟨rfl, fun j j0 j1 => by dsimp only at j1; omega⟩⟩))
    · rcases o with la | i
      · show b_wp (F_X5_lineToChange_b92 la M) _
        unfold F_X5_lineToChange_b92
        exact b_Ws z
      · exact b_Ws z
    intro ⟨la, k⟩ ⟨g1, g2, g3⟩
    dsimp only at g1 g2 g3 ⊢
    unfold F_X5_lineToChange_s25
    refine b_Wg h1 (b_Wi (fun a => b_Ws ?_) (fun a => ?_))
    · have e : k = M 94 l := by omega
      rw [e] at g2 g3
      exact Or.inr ⟨g2, g3⟩
    have c := h.2.2 k g1.1 (by omega)
    have op : M 178 (12 * l + k) = z_op t ↔ (M 178 (12 * l + k) % 2 = w ∧ M 178 (12 * l + k) ≠ t) := by
      unfold z_op
      split <;> omega
    have b67 : ¬ Lf M l t s k → b_wp (F_X5_lineToChange_b67 l w t s la k (M 178 (12 * l + k)) M) (Sum.elim (fun x : Int × Int => ((0 ≤ x.2 ∧ x.2 ≤ M 94 l) ∧ (∀ j, 0 ≤ j → j < x.2 → ¬ Lf M l t s j) ∧ (((0 ≤ x.1 ∧ x.1 < x.2) ∧ M 178 (12 * l + x.1) = z_op t ∧ ∀ j, x.1 < j → j < x.2 → M 178 (12 * l + j) ≠ z_op t) ∨ (x.1 = -1 ∧ ∀ j, 0 ≤ j → j < x.2 → M 178 (12 * l + j) ≠ z_op t))) ∧ (M 94 l - x.2).toNat < (M 94 l - k).toNat) (Sum.elim (fun la : Int => Lc M l t s la) (fun i : Int => Lc M l t s i))) := by
      intro nf
      have g2' : ∀ j, 0 ≤ j → j < k + 1 → ¬ Lf M l t s j := fun j j0 j1 => by
        by_cases e : j = k
        · rw [e]; exact nf
        · exact g2 j j0 (by omega)
      have skip : M 178 (12 * l + k) ≠ z_op t → (((0 ≤ la ∧ la < k + 1) ∧ M 178 (12 * l + la) = z_op t ∧ ∀ j, la < j → j < k + 1 → M 178 (12 * l + j) ≠ z_op t) ∨ (la = -1 ∧ ∀ j, 0 ≤ j → j < k + 1 → M 178 (12 * l + j) ≠ z_op t)) := by
        intro nk
        rcases g3 with ⟨a1, a2, a3⟩ | ⟨a1, a2⟩
        · refine Or.inl ⟨by omega, a2, fun j j0 j1 => ?_⟩
          by_cases e : j = k
          · rw [e]; exact nk
          · exact a3 j j0 (by omega)
        · refine Or.inr ⟨a1, fun j j0 j1 => ?_⟩
          by_cases e : j = k
          · rw [e]; exact nk
          · exact a2 j j0 (by omega)
      unfold F_X5_lineToChange_b67
      rw [i_rem_e (by omega) (by omega)]
      clear g3
      refine b_Wi (fun a1 => b_Wi (fun a2 => b_Wg (by omega) (b_Ws ⟨⟨by dsimp only; omega, g2', skip (fun z => (op.mp z).2 a2)⟩, by dsimp only; omega⟩)) (fun a2 => b_Wg (by omega) (b_Ws ⟨⟨by dsimp only; omega, g2', Or.inl ⟨by dsimp only; omega, op.mpr ⟨a1, a2⟩, fun j j0 j1 => by dsimp only at j0 j1; omega⟩⟩, by dsimp only; omega⟩))) (fun a1 => b_Wg (by omega) (b_Ws ⟨⟨by dsimp only; omega, g2', skip (fun z => a1 (op.mp z).1)⟩, by dsimp only; omega⟩))
    refine b_We (e_wayOf h (by omega)) (b_Wi (fun a1 => b_We (e_feetOf h (by omega)) (b_Wi (fun a2 => b67 (fun z => by have := z.2; omega)) (fun a2 => b_Ws (Or.inl ⟨by omega, ⟨a1, by omega⟩, g2⟩)))) (fun a1 => b67 (fun z => a1 z.1)))
  unfold F_X5_lineToChange z_tl
  refine b_Wi (fun a => b_Wg (by omega) ?_) (fun a => ?_)
  · rw [if_pos a]; exact go _ (Or.inr rfl)
  · rw [if_neg a]; exact go _ (Or.inl rfl)
theorem x_sw_0 {M : bM} {l t : Int} : ∀ k : Nat, (∀ j : Nat, j < k → M 178 (12 * l + j) ≠ t) → x_sw M l t k = 0 := by
  intro k
  induction k with
  | zero => intro _; rfl
  | succ k ih =>
    intro h
    show x_sw M l t k + _ = 0
    rw [ih (fun j hj => h j (by omega)), if_neg (h k (by omega))]
    rfl
theorem x_sw_ge {M : bM} {l t : Int} (h : Ln M l) : ∀ k : Nat, (k : Int) ≤ M 94 l → ∀ j : Nat, j < k → M 178 (12 * l + j) = t → M 179 (12 * l + j) ≤ x_sw M l t k := by
  intro k
  induction k with
  | zero => intro _ j hj; omega
  | succ k ih =>
    intro hk j hj ht
    have r := x_sw_r (w := t) h k (by omega)
    have c := (h.2.2 k (by omega) (by omega)).2.2
    show _ ≤ x_sw M l t k + _
    by_cases e : j = k
    · subst e
      rw [if_pos ht]; omega
    · have := ih (by omega) j (by omega) ht
      split <;> omega
/-- the reference's line to change -/
theorem t_mends {M N : bM} {l w : Int} (h : Ln M l) (hN : Lk2 M N l) (hw : 0 ≤ w ∧ w ≤ 1) : b_wp (F_X12_mends l w N) (fun x => (x = -1 ∧ Lc M l (z_tl w (x_ld M l w (M 94 l).toNat)) (max (x_ld M l w (M 94 l).toNat) (-x_ld M l w (M 94 l).toNat)) (-1)) ∨ (0 ≤ x - 12 * l ∧ Lc M l (z_tl w (x_ld M l w (M 94 l).toNat)) (max (x_ld M l w (M 94 l).toNat) (-x_ld M l w (M 94 l).toNat)) (x - 12 * l))) := by
  have h1 := h.1
  have h2 := h.2.1
  have r := x_ld_r (w := w) h
  have none : ∀ t, t = z_tl w (x_ld M l w (M 94 l).toNat) → (∀ j, 0 ≤ j → j < M 94 l → M 178 (12 * l + j) ≠ z_op t) → ∀ j, 0 ≤ j → j < M 94 l → ¬ Lf M l t (max (x_ld M l w (M 94 l).toNat) (-x_ld M l w (M 94 l).toNat)) j := by
    intro t ht hop j j0 j1 z
    have ld := x_sw_ld (M := M) (l := l) (w := w) (M 94 l).toNat
    have z0 := x_sw_0 (M := M) (l := l) (t := z_op t) (M 94 l).toNat (fun j hj => hop j (by omega) (by omega))
    have ge := x_sw_ge (t := t) h (M 94 l).toNat (by omega) j.toNat (by omega)
    rw [show ((j.toNat : Nat) : Int) = j by omega] at ge
    have ge2 := ge z.1
    have z2 := z.2
    unfold z_tl at ht
    by_cases q : x_ld M l w (M 94 l).toNat ≤ 0
    · rw [if_pos q] at ht
      have e : z_op t = w := by unfold z_op; rw [if_neg (by omega)]; omega
      rw [e] at z0
      rw [ht] at ge2
      omega
    · rw [if_neg q] at ht
      have e : z_op t = w + 2 := by unfold z_op; rw [if_pos (by omega)]; omega
      rw [e] at z0
      rw [ht] at ge2
      omega
  unfold F_X12_mends
  refine b_We (e_leads h hN hw) ?_
  generalize hby : x_ld M l w (M 94 l).toNat = by_ at *
  have b30 : ∀ t, t = z_tl w by_ → (0 ≤ t ∧ t ≤ 3) → b_wp (F_X12_mends_b30 l t (max by_ (-by_)) N) (fun x => (x = -1 ∧ Lc M l (z_tl w by_) (max by_ (-by_)) (-1)) ∨ (0 ≤ x - 12 * l ∧ Lc M l (z_tl w by_) (max by_ (-by_)) (x - 12 * l))) := by
    intro t ht tr
    have non := none t ht
    rw [← ht]
    generalize max by_ (-by_) = s at *
    have eop : i_rem (t + 2) 4 = z_op t := by
      rw [i_rem_e (by omega) (by omega)]
      unfold z_op
      split <;> omega
    unfold F_X12_mends_b30
    refine b_Wg (by omega) (b_Wb (b_wp_m (fun o z => ?_) (b_loop_ind (P := fun o : Int × Int => (o.2 = 1 ∧ (0 ≤ o.1 - 12 * l ∧ o.1 - 12 * l < M 94 l) ∧ M 178 (12 * l + (o.1 - 12 * l)) = z_op t ∧ ∀ j, o.1 - 12 * l < j → j < M 94 l → M 178 (12 * l + j) ≠ z_op t) ∨ (o.2 = 0 ∧ o.1 = -1 ∧ ∀ j, 0 ≤ j → j < M 94 l → M 178 (12 * l + j) ≠ z_op t)) (I := fun x : Int × Int × Int => (12 * l ≤ x.2.2 ∧ x.2.2 ≤ 12 * l + M 94 l) ∧ ((x.2.1 = 1 ∧ (0 ≤ x.1 - 12 * l ∧ x.1 < x.2.2) ∧ M 178 (12 * l + (x.1 - 12 * l)) = z_op t ∧ ∀ j, x.1 - 12 * l < j → j < x.2.2 - 12 * l → M 178 (12 * l + j) ≠ z_op t) ∨ (x.2.1 = 0 ∧ x.1 = -1 ∧ ∀ j, 0 ≤ j → j < x.2.2 - 12 * l → M 178 (12 * l + j) ≠ z_op t))) (fun x => (12 * l + M 94 l - x.2.2).toNat) ?_ (-1, 0, 12 * l) ⟨by dsimp only; omega, Or.inr ⟨rfl, rfl, fun j j0 j1 => by dsimp only at j1; omega⟩⟩)))
    · obtain ⟨la, bo⟩ := o
      dsimp only at z ⊢
      unfold F_X12_mends_b89
      refine b_Wg (by omega) (b_Wb (b_wp_m (fun o y => ?_) (b_loop_ind (P := Sum.elim (fun _ : Unit => bo = 0 ∨ ∀ j, 0 ≤ j → j < M 94 l → ¬ Lf M l t s j) (fun x : Int => (0 ≤ x - 12 * l ∧ x - 12 * l < M 94 l) ∧ Lf M l t s (x - 12 * l) ∧ ∀ j, 0 ≤ j → j < x - 12 * l → ¬ Lf M l t s j)) (I := fun k : Int => (12 * l ≤ k ∧ k ≤ 12 * l + M 94 l) ∧ ∀ j, 0 ≤ j → j < k - 12 * l → ¬ Lf M l t s j) (fun k => (12 * l + M 94 l - k).toNat) ?_ (12 * l) ⟨by omega, fun j j0 j1 => by omega⟩)))
      · rcases o with u | x
        · show b_wp (F_X12_mends_b149 la N) _
          unfold F_X12_mends_b149
          refine b_Ws ?_
          rcases z with ⟨z1, z2, z3, z4⟩ | ⟨z1, z2, z3⟩
          · have y2 := y.resolve_left (by omega)
            exact Or.inr ⟨z2.1, Or.inr ⟨y2, Or.inl ⟨z2, z3, z4⟩⟩⟩
          · exact Or.inl ⟨z2, Or.inr ⟨non z3, Or.inr ⟨rfl, z3⟩⟩⟩
        · exact b_Ws (Or.inr ⟨y.1.1, Or.inl y⟩)
      · intro k ⟨g1, g2⟩
        unfold F_X12_mends_s95
        rw [hN.1]
        refine b_Wg (by omega) (b_Wi (fun a => b_Ws (Or.inr fun j j0 j1 => g2 j j0 (by omega))) (fun a => b_Wi (fun a1 => b_Ws (Or.inl a1)) (fun a1 => ?_)))
        have hk := hN.2 (k - 12 * l) (by omega) (by omega)
        rw [show 12 * l + (k - 12 * l) = k by omega] at hk
        have eL : Lf M l t s (k - 12 * l) ↔ (M 178 k = t ∧ s < M 179 k) := by
          unfold Lf
          rw [show 12 * l + (k - 12 * l) = k by omega]
        have nx : ¬ Lf M l t s (k - 12 * l) → ((12 * l ≤ k + 1 ∧ k + 1 ≤ 12 * l + M 94 l) ∧ ∀ j, 0 ≤ j → j < k + 1 - 12 * l → ¬ Lf M l t s j) ∧ (12 * l + M 94 l - (k + 1)).toNat < (12 * l + M 94 l - k).toNat := fun z => ⟨⟨by omega, fun j j0 j1 => by
          by_cases e : j = k - 12 * l
          · rw [e]; exact z
          · exact g2 j j0 (by omega)⟩, by omega⟩
        rw [hk.1, hk.2]
        refine b_Wg (by omega) (b_Wi (fun a2 => b_Wg (by omega) (b_Wi (fun a3 => b_Wg (by omega) (b_Ws (nx (fun z => by have := (eL.mp z).2; omega)))) (fun a3 => b_Ws ⟨by omega, eL.mpr ⟨a2, by omega⟩, g2⟩))) (fun a2 => b_Wg (by omega) (b_Ws (nx (fun z => a2 (eL.mp z).1)))))
    · intro ⟨la, bo, k⟩ ⟨g1, g2⟩
      dsimp only at g1 g2 ⊢
      unfold F_X12_mends_s44
      rw [hN.1, eop]
      refine b_Wg (by omega) (b_Wi (fun a => b_Ws ?_) (fun a => ?_))
      · have e : k - 12 * l = M 94 l := by omega
        rw [e] at g2
        rcases g2 with ⟨b1, b2, b3, b4⟩ | b
        · exact Or.inl ⟨b1, by dsimp only; omega, b3, b4⟩
        · exact Or.inr b
      have hk := hN.2 (k - 12 * l) (by omega) (by omega)
      rw [show 12 * l + (k - 12 * l) = k by omega] at hk
      rw [hk.1]
      refine b_Wg (by omega) (b_Wi (fun a1 => b_Wg (by omega) (b_Ws ⟨⟨by dsimp only; omega, Or.inl ⟨rfl, by dsimp only; omega, ?_, fun j j0 j1 => by dsimp only at j0 j1; omega⟩⟩, by dsimp only; omega⟩)) (fun a1 => b_Wg (by omega) (b_Ws ⟨⟨by dsimp only; omega, ?_⟩, by dsimp only; omega⟩)))
      · dsimp only
        rw [show 12 * l + (k - 12 * l) = k by omega]; exact a1
      · dsimp only
        have ne : ∀ j, j = k - 12 * l → M 178 (12 * l + j) ≠ z_op t := fun j hj => by
          rw [hj, show 12 * l + (k - 12 * l) = k by omega]; exact a1
        rcases g2 with ⟨b1, b2, b3, b4⟩ | ⟨b1, b2, b3⟩
        · refine Or.inl ⟨b1, by omega, b3, fun j j0 j1 => ?_⟩
          by_cases e : j = k - 12 * l
          · exact ne j e
          · exact b4 j j0 (by omega)
        · refine Or.inr ⟨b1, b2, fun j j0 j1 => ?_⟩
          by_cases e : j = k - 12 * l
          · exact ne j e
          · exact b3 j j0 (by omega)
  have b18 : ∀ t, t = z_tl w by_ → (0 ≤ t ∧ t ≤ 3) → b_wp (F_X12_mends_b18 l by_ t N) (fun x => (x = -1 ∧ Lc M l (z_tl w by_) (max by_ (-by_)) (-1)) ∨ (0 ≤ x - 12 * l ∧ Lc M l (z_tl w by_) (max by_ (-by_)) (x - 12 * l))) := by
    intro t ht tr
    have := b30 t ht tr
    unfold F_X12_mends_b18
    refine b_Wi (fun a => ?_) (fun a => b_Wg (by omega) ?_)
    · rw [show max by_ (-by_) = by_ by omega] at this ⊢; exact this
    · rw [show max by_ (-by_) = -by_ by omega] at this ⊢; exact this
  refine b_Wi (fun a => b_Wg (by omega) (b18 _ (if_pos a).symm (by omega))) (fun a => b18 _ (if_neg a).symm (by omega))
